/** The sentences of promise 10, cut, 11, cutRule, and 12, left, that name a case of their own. */
public final class CutEdgesTest {
    private static final Class<? extends RuntimeException> ARGUMENT = IllegalArgumentException.class;
    private static final int LEAST = Integer.MIN_VALUE;
    private static final int MOST = Integer.MAX_VALUE;
    private static final int ALL = (1 << 28) - 1;

    public static void main(String[] args) {
        Due due = new Due();
        due.part(CutEdgesTest::greatestCosts);
        due.part(CutEdgesTest::leastCost);
        due.part(CutEdgesTest::cutWithoutAWay);
        due.part(CutEdgesTest::cutOfNoSuchNode);
        due.part(CutEdgesTest::cutOfOneNode);
        due.part(CutEdgesTest::byNumbers);
        due.part(CutEdgesTest::behindTheLastOne);
        due.part(CutEdgesTest::cutRuleWithoutAWay);
        due.part(CutEdgesTest::cutRuleAsForCut);
        due.part(CutEdgesTest::cutRuleBelowZero);
        due.part(CutEdgesTest::firstNodeAlone);
        due.part(CutEdgesTest::allButTheLast);
        due.part(CutEdgesTest::leftLastBit);
        due.part(CutEdgesTest::leftWithoutAWay);
        due.part(CutEdgesTest::leftAsForCut);
        due.end();
    }

    private static void greatestCosts(Due due) {
        due.sentence("Promise 10, The costs of the least cut together, the greatest that 90 rules can have");
        FlowGuard x = Ask.ninety(0, 27, 9);
        due.is("90 rules of cost 9", 810, () -> x.cut(0, 27));
        due.is("and none back", 0, () -> x.cut(27, 0));
        x.turn(89, false);
        due.is("89 of them", 801, () -> x.cut(0, 27));

        // Ways of two rules: 45 go to 13, and 45 on from it.
        FlowGuard y = new FlowGuard();
        for (int i = 0; i < 45; i++) {
            y.rule(27, 13, 9);
            y.rule(13, 0, 9);
        }
        due.is("45 ways of two rules", 405, () -> y.cut(27, 0));
        due.is("left of them", 1 << 27, () -> y.left(27, 0));
        y.turn(89, false);
        due.is("45 and then 44", 396, () -> y.cut(27, 0));
        due.is("left of 45 and then 44", 1 << 27 | 1 << 13, () -> y.left(27, 0));
    }

    private static void leastCost(Due due) {
        due.sentence("Promise 10, The costs of the least cut together, the least there are");
        FlowGuard x = new FlowGuard();
        x.rule(27, 0, 1);
        due.is("one rule of cost 1", 1, () -> x.cut(27, 0));
        due.is("90 rules of cost 1", 90, () -> Ask.ninety(27, 0, 1).cut(27, 0));
    }

    private static void cutWithoutAWay(Due due) {
        due.sentence("Promise 10, The costs of the least cut together, without a way");
        due.is("without rules", 0, () -> new FlowGuard().cut(0, 27));
        due.is("against the rules", 0, () -> Ask.ninety(0, 27, 9).cut(27, 0));
        FlowGuard x = new FlowGuard();
        x.rule(0, 1, 9);
        x.rule(2, 27, 9);
        due.is("two rules apart", 0, () -> x.cut(0, 27));
        x.rule(1, 2, 1);
        due.is("no more apart", 1, () -> x.cut(0, 27));
        x.turn(2, false);
        due.is("apart again", 0, () -> x.cut(0, 27));
    }

    private static void cutOfNoSuchNode(Due due) {
        due.sentence("Promise 10, IllegalArgumentException if there is no such node");
        Ask.noSuchNode(due, "cut", (x, from, to) -> x.cut(from, to));
    }

    private static void cutOfOneNode(Due due) {
        due.sentence("Promise 10, IllegalArgumentException if both are one.");
        Ask.bothAreOne(due, "cut", (x, from, to) -> x.cut(from, to));
    }

    private static void byNumbers(Due due) {
        due.sentence("Promise 11, Rule k of the least cut, by numbers");
        FlowGuard x = new FlowGuard();
        x.rule(9, 27, 9);
        x.rule(0, 9, 1);
        x.rule(8, 27, 9);
        x.rule(0, 8, 2);
        x.rule(7, 27, 9);
        x.rule(0, 7, 1);
        x.rule(0, 27, 3);
        x.rule(0, 9, 1);
        // Neither by costs nor by the nodes where they end, and not those that are off.
        Ask.cut(due, x, 0, 27, 8, 1, 1, 3, 5, 6, 7);
        x.turn(5, false);
        Ask.cut(due, x, 0, 27, 7, 1, 1, 3, 6, 7);
        FlowGuard ninety = Ask.ninety(0, 27, 9);
        for (int i = 0; i < 90; i++) {
            int k = i;
            due.is("rule " + k + " of 90", k, () -> ninety.cutRule(0, 27, k));
        }
    }

    private static void behindTheLastOne(Due due) {
        due.sentence("Promise 11, NONE behind the last one");
        FlowGuard x = new FlowGuard();
        x.rule(0, 1, 1);
        x.rule(1, 27, 9);
        x.rule(0, 27, 1);
        due.is("the last of two", 2, () -> x.cutRule(0, 27, 1));
        noRules(due, x, 0, 27, 2, 3, 89, 90, 91, MOST);
        due.is("the only one", 1, () -> x.cutRule(1, 27, 0));
        noRules(due, x, 1, 27, 1, 2, 90, MOST);
        FlowGuard ninety = Ask.ninety(27, 0, 9);
        due.is("the last of 90", 89, () -> ninety.cutRule(27, 0, 89));
        noRules(due, ninety, 27, 0, 90, 91, 180, MOST);
    }

    private static void cutRuleWithoutAWay(Due due) {
        due.sentence("Promise 11, NONE behind the last one, of a cut without rules");
        noRules(due, new FlowGuard(), 0, 27, 0, 1, 89, 90, MOST);
        noRules(due, Ask.ninety(0, 27, 9), 27, 0, 0, 1, 89, 90, MOST);
        FlowGuard x = new FlowGuard();
        x.rule(0, 27, 1);
        x.turn(0, false);
        noRules(due, x, 0, 27, 0, 1, MOST);
    }

    private static void noRules(Due due, FlowGuard x, int from, int to, int... ks) {
        for (int k : ks) {
            due.is("cutRule(" + from + ", " + to + ", " + k + ")", -1, () -> x.cutRule(from, to, k));
        }
    }

    private static void cutRuleAsForCut(Due due) {
        due.sentence("Promise 11, IllegalArgumentException as for cut()");
        for (int k : new int[] {0, 1, MOST}) {
            Ask.noSuchNode(due, "cutRule " + k, (x, from, to) -> x.cutRule(from, to, k));
            Ask.bothAreOne(due, "cutRule " + k, (x, from, to) -> x.cutRule(from, to, k));
        }
    }

    private static void cutRuleBelowZero(Due due) {
        due.sentence("Promise 11, IllegalArgumentException if k is below 0.");
        for (int k : new int[] {-1, -2, -90, LEAST}) {
            due.throwsExactly(k + " of a cut", ARGUMENT, () -> Ask.ninety(0, 27, 1).cutRule(0, 27, k));
            due.throwsExactly(k + " of a cut without rules", ARGUMENT, () -> Ask.ninety(0, 27, 1).cutRule(27, 0, k));
            due.throwsExactly(k + " without rules", ARGUMENT, () -> new FlowGuard().cutRule(0, 27, k));
        }
        due.is("0 of a cut", 0, () -> Ask.ninety(0, 27, 1).cutRule(0, 27, 0));
    }

    private static void firstNodeAlone(Due due) {
        due.sentence("Promise 12, The nodes that are left with a way from the first one: it alone");
        for (int i = 0; i < 28; i++) {
            int node = i;
            int next = (node + 1) % 28;
            FlowGuard x = new FlowGuard();
            x.rule(node, next, 9);
            x.rule(next, (node + 2) % 28, 9);
            due.is("left of " + node, 1 << node, () -> x.left(node, next));
            due.is("left of " + node + ", by two rules", 1 << node, () -> x.left(node, (node + 2) % 28));
        }
        due.is("of 90 rules", 1, () -> Ask.ninety(0, 27, 9).left(0, 27));
    }

    private static void allButTheLast(Due due) {
        due.sentence("Promise 12, The nodes that are left with a way from the first one: all but the last");
        for (int last : new int[] {27, 0, 13}) {
            FlowGuard x = new FlowGuard();
            int first = (last + 1) % 28;
            for (int i = 1; i < 27; i++) {
                x.rule((last + i) % 28, (last + i + 1) % 28, 2);
            }
            x.rule((last + 27) % 28, last, 1);
            Ask.cut(due, x, first, last, 1, ALL & ~(1 << last), 26);
        }
    }

    private static void leftLastBit(Due due) {
        due.sentence("Promise 12, a bit each: that of node 27");
        FlowGuard x = new FlowGuard();
        x.rule(0, 27, 2);
        x.rule(27, 1, 1);
        due.is("between", 1 | 1 << 27, () -> x.left(0, 1));
        due.is("as the first one", 1 << 27, () -> x.left(27, 1));
        due.is("as the last one", 1, () -> x.left(0, 27));
        x.rule(0, 1, 1);
        x.rule(27, 26, 9);
        due.is("with a node behind it", 1 | 1 << 26 | 1 << 27, () -> x.left(0, 1));
    }

    private static void leftWithoutAWay(Due due) {
        due.sentence("Promise 12, The nodes that are left, of a cut without rules");
        due.is("without rules", 1 << 27, () -> new FlowGuard().left(27, 0));
        FlowGuard x = new FlowGuard();
        for (int node = 0; node < 26; node++) {
            x.rule(node, node + 1, 1);
        }
        due.is("all but a last one without rules", ALL & ~(1 << 27), () -> x.left(0, 27));
        due.is("against the rules", 1 << 26, () -> x.left(26, 0));
        x.turn(13, false);
        due.is("those before a rule that is off", (1 << 14) - 1, () -> x.left(0, 27));
    }

    private static void leftAsForCut(Due due) {
        due.sentence("Promise 12, IllegalArgumentException as for cut().");
        Ask.noSuchNode(due, "left", (x, from, to) -> x.left(from, to));
        Ask.bothAreOne(due, "left", (x, from, to) -> x.left(from, to));
    }
}
