/** Promise 3, rule, and promise 4, turn. */
public final class RuleAndTurnTest {
    private static final Class<? extends RuntimeException> ARGUMENT = IllegalArgumentException.class;
    private static final Class<? extends RuntimeException> INDEX = IndexOutOfBoundsException.class;
    private static final Class<? extends RuntimeException> UNSUPPORTED = UnsupportedOperationException.class;
    private static final int LEAST = Integer.MIN_VALUE;
    private static final int MOST = Integer.MAX_VALUE;

    public static void main(String[] args) {
        Due due = new Due();
        due.part(RuleAndTurnTest::itsNumber);
        due.part(RuleAndTurnTest::costs);
        due.part(RuleAndTurnTest::sameRuleTwice);
        due.part(RuleAndTurnTest::noSuchNode);
        due.part(RuleAndTurnTest::bothAreOne);
        due.part(RuleAndTurnTest::costIsNotAsItMustBe);
        due.part(RuleAndTurnTest::ninety);
        due.part(RuleAndTurnTest::ninetyThoughOff);
        due.part(RuleAndTurnTest::wrongInTwoWays);
        due.part(RuleAndTurnTest::onOrOff);
        due.part(RuleAndTurnTest::soBefore);
        due.part(RuleAndTurnTest::turningTheLast);
        due.part(RuleAndTurnTest::noSuchRule);
        due.part(RuleAndTurnTest::noSuchRuleAfterClear);
        due.end();
    }

    private static void itsNumber(Due due) {
        due.sentence("Promise 3, A rule: its number.");
        FlowGuard x = new FlowGuard();
        due.is("rule(0, 27, 1)", 0, () -> x.rule(0, 27, 1));
        due.is("rule(27, 0, 9)", 1, () -> x.rule(27, 0, 9));
        due.throwsExactly("rule(27, 27, 9)", ARGUMENT, () -> x.rule(27, 27, 9));
        due.is("the number after one that threw", 2, () -> x.rule(26, 27, 5));
        x.turn(2, false);
        due.is("the number after one that is off", 3, () -> x.rule(26, 25, 5));
        due.is("way of rule 0", 0, () -> x.step(0, 27, 0));
        due.is("way of rule 1", 1, () -> x.step(27, 0, 0));
        due.is("a rule goes one way", -1, () -> x.length(25, 26));
    }

    private static void costs(Due due) {
        due.sentence("Promise 3, A rule of each cost");
        for (int i = 1; i <= 9; i++) {
            int cost = i;
            FlowGuard x = new FlowGuard();
            due.is("rule of cost " + cost, 0, () -> x.rule(3, 4, cost));
            due.is("cut of cost " + cost, cost, () -> x.cut(3, 4));
        }
    }

    private static void sameRuleTwice(Due due) {
        due.sentence("Promise 3, A rule: its number, though there is one like it");
        FlowGuard x = new FlowGuard();
        due.is("a rule", 0, () -> x.rule(2, 3, 4));
        due.is("the same rule again is another one", 1, () -> x.rule(2, 3, 4));
        due.is("cut of both", 8, () -> x.cut(2, 3));
        x.turn(0, false);
        due.is("step by the other one", 1, () -> x.step(2, 3, 0));
    }

    private static void noSuchNode(Due due) {
        due.sentence("Promise 3, IllegalArgumentException if there is no such node");
        Ask.noSuchNode(due, "rule", (x, from, to) -> x.rule(from, to, 1));
        Ask.noSuchNode(due, "rule of cost 9", (x, from, to) -> x.rule(from, to, 9));
    }

    private static void bothAreOne(Due due) {
        due.sentence("Promise 3, IllegalArgumentException if both are one");
        Ask.bothAreOne(due, "rule", (x, from, to) -> x.rule(from, to, 1));
    }

    private static void costIsNotAsItMustBe(Due due) {
        due.sentence("Promise 3, IllegalArgumentException if the cost is not as it must be");
        FlowGuard x = new FlowGuard();
        for (int cost : new int[] {0, 10, -1, -9, 11, LEAST, MOST}) {
            due.throwsExactly("rule of cost " + cost, ARGUMENT, () -> x.rule(0, 27, cost));
        }
        due.is("none of them was made", 0, () -> x.rule(0, 27, 1));
    }

    private static void ninety(Due due) {
        due.sentence("Promise 3, UnsupportedOperationException if there are 90.");
        FlowGuard x = new FlowGuard();
        for (int rule = 0; rule < 89; rule++) {
            x.rule(rule % 28, (rule + 1) % 28, 1 + rule % 9);
        }
        due.is("the 90th rule", 89, () -> x.rule(5, 6, 9));
        due.throwsExactly("one more", UNSUPPORTED, () -> x.rule(0, 1, 1));
        due.throwsExactly("one more, of the last nodes", UNSUPPORTED, () -> x.rule(27, 26, 9));
        for (int rule = 0; rule < 89; rule++) {
            x.turn(rule, false);
        }
        Ask.way(due, x, 5, 6, 89);
        Ask.cut(due, x, 5, 6, 9, 1 << 5, 89);
        due.throwsExactly("turn of one more", INDEX, () -> x.turn(90, true));
    }

    private static void ninetyThoughOff(Due due) {
        due.sentence("Promise 3, UnsupportedOperationException if there are 90, on or off");
        FlowGuard x = Ask.ninety(0, 27, 1);
        for (int rule = 0; rule < 90; rule++) {
            x.turn(rule, false);
        }
        due.throwsExactly("one more when all are off", UNSUPPORTED, () -> x.rule(0, 1, 1));
        x.clear();
        due.is("and when all are gone", 0, () -> x.rule(0, 1, 1));
    }

    private static void wrongInTwoWays(Due due) {
        // The document doesn't say which comes first: it is taken in the order of its words.
        due.sentence("Promise 3, IllegalArgumentException before UnsupportedOperationException");
        FlowGuard x = Ask.ninety(0, 27, 1);
        for (int wrong : new int[] {-1, 28, LEAST, MOST}) {
            due.throwsExactly("rule from " + wrong, ARGUMENT, () -> x.rule(wrong, 1, 1));
            due.throwsExactly("rule to " + wrong, ARGUMENT, () -> x.rule(1, wrong, 1));
            due.throwsExactly("rule of cost " + wrong, ARGUMENT, () -> x.rule(1, 2, wrong));
        }
        due.throwsExactly("rule of one node", ARGUMENT, () -> x.rule(1, 1, 1));
    }

    private static void onOrOff(Due due) {
        due.sentence("Promise 4, A rule is on, or off");
        FlowGuard x = new FlowGuard();
        x.rule(0, 1, 2);
        x.rule(1, 2, 3);
        x.turn(0, false);
        due.is("no way by a rule that is off", -1, () -> x.length(0, 2));
        due.is("no cut of it", 0, () -> x.cut(0, 2));
        due.is("no node passed by it", 0, () -> x.passed(0, 2));
        due.is("the other rule is still on", true, () -> x.turn(1, true));
        x.turn(0, true);
        due.is("a way again", 2, () -> x.length(0, 2));
        due.is("a cut again", 2, () -> x.cut(0, 2));
        due.is("a node passed again", 1 << 1, () -> x.passed(0, 2));
    }

    private static void soBefore(Due due) {
        due.sentence("Promise 4, whether it was so before");
        FlowGuard x = new FlowGuard();
        x.rule(0, 1, 2);
        x.rule(1, 2, 3);
        due.is("on when it is on at first", true, () -> x.turn(0, true));
        due.is("off when it is on", false, () -> x.turn(0, false));
        due.is("off when it is off", true, () -> x.turn(0, false));
        due.is("off when it is off once more", true, () -> x.turn(0, false));
        due.is("on when it is off", false, () -> x.turn(0, true));
        due.is("on when it is on", true, () -> x.turn(0, true));
        due.is("on when it is on once more", true, () -> x.turn(0, true));
        due.is("off first of all", false, () -> x.turn(1, false));
    }

    private static void turningTheLast(Due due) {
        due.sentence("Promise 4, A rule is on, or off: the first and the last of 90");
        for (int rule : new int[] {0, 89}) {
            FlowGuard x = Ask.ninety(0, 27, 1);
            due.is("turn(" + rule + ", false)", false, () -> x.turn(rule, false));
            due.is("cut without it", 89, () -> x.cut(0, 27));
            due.is("turn(" + rule + ", true)", false, () -> x.turn(rule, true));
            due.is("cut with it", 90, () -> x.cut(0, 27));
        }
    }

    private static void noSuchRule(Due due) {
        due.sentence("Promise 4, IndexOutOfBoundsException if there is no such rule.");
        FlowGuard none = new FlowGuard();
        noRule(due, none, "without rules", -1, 0, 1, 27, 89, 90, LEAST, MOST);
        FlowGuard one = new FlowGuard();
        one.rule(0, 1, 1);
        due.is("the only one", true, () -> one.turn(0, true));
        noRule(due, one, "with one rule", -1, 1, 2, 89, 90, LEAST, MOST);
        FlowGuard ninety = Ask.ninety(0, 27, 1);
        due.is("the last one", true, () -> ninety.turn(89, true));
        noRule(due, ninety, "with 90 rules", -1, 90, 91, 180, LEAST, MOST);
    }

    private static void noSuchRuleAfterClear(Due due) {
        due.sentence("Promise 4, IndexOutOfBoundsException if there is no such rule, after clear()");
        FlowGuard x = Ask.ninety(0, 27, 1);
        x.clear();
        noRule(due, x, "after clear", -1, 0, 1, 89, 90, LEAST, MOST);
        x.rule(1, 2, 3);
        noRule(due, x, "after clear and a rule", -1, 1, 2, 89, 90, LEAST, MOST);
        due.is("the new one", true, () -> x.turn(0, true));
    }

    private static void noRule(Due due, FlowGuard x, String when, int... rules) {
        for (int rule : rules) {
            due.throwsExactly("turn(" + rule + ", true) " + when, INDEX, () -> x.turn(rule, true));
            due.throwsExactly("turn(" + rule + ", false) " + when, INDEX, () -> x.turn(rule, false));
        }
    }
}
