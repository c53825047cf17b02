/** The sentences of the terms that name a bound or a case of their own, one after the other. */
public final class TermsTest {
    public static void main(String[] args) {
        Due due = new Due();
        due.part(TermsTest::nodes);
        due.part(TermsTest::noOtherNodes);
        due.part(TermsTest::costs);
        due.part(TermsTest::numbers);
        due.part(TermsTest::onAtFirst);
        due.part(TermsTest::byRulesThatAreOn);
        due.part(TermsTest::withoutRulesIfOne);
        due.part(TermsTest::fewestRules);
        due.part(TermsTest::leastRules);
        due.part(TermsTest::leastOfTheSameNodes);
        due.part(TermsTest::butItsLastOne);
        due.part(TermsTest::andThereIsAWay);
        due.part(TermsTest::leastCosts);
        due.part(TermsTest::fewestLeft);
        due.part(TermsTest::fewestLeftOfMany);
        due.part(TermsTest::none);
        due.end();
    }

    private static void nodes(Due due) {
        due.sentence("Terms 1, NODES are 0 .. 27");
        due.is("how many there are", 28, () -> new FlowGuard().circles());
        for (int node : new int[] {0, 27}) {
            FlowGuard x = new FlowGuard();
            due.is("rule from " + node, 0, () -> x.rule(node, 13, 1));
            due.is("rule to " + node, 1, () -> x.rule(13, node, 2));
            Ask.way(due, x, node, 13, 0);
            Ask.way(due, x, 13, node, 1);
            due.is("passed from " + node, 0, () -> x.passed(node, 13));
            due.is("passed to " + node, 0, () -> x.passed(13, node));
            due.is("circle of " + node, 1 << node | 1 << 13, () -> x.circle(node));
            Ask.cut(due, x, node, 13, 1, 1 << node, 0);
            Ask.cut(due, x, 13, node, 2, 1 << 13, 1);
        }
    }

    private static void noOtherNodes(Due due) {
        due.sentence("Terms 1, NODES are 0 .. 27 and no others");
        for (int no : new int[] {-1, 28}) {
            FlowGuard x = new FlowGuard();
            refused(due, "rule from " + no, () -> x.rule(no, 13, 1));
            refused(due, "rule to " + no, () -> x.rule(13, no, 1));
            refused(due, "length from " + no, () -> x.length(no, 13));
            refused(due, "length to " + no, () -> x.length(13, no));
            refused(due, "step from " + no, () -> x.step(no, 13, 0));
            refused(due, "step to " + no, () -> x.step(13, no, 0));
            refused(due, "passed from " + no, () -> x.passed(no, 13));
            refused(due, "passed to " + no, () -> x.passed(13, no));
            refused(due, "circle of " + no, () -> x.circle(no));
            refused(due, "cut from " + no, () -> x.cut(no, 13));
            refused(due, "cut to " + no, () -> x.cut(13, no));
            refused(due, "cutRule from " + no, () -> x.cutRule(no, 13, 0));
            refused(due, "cutRule to " + no, () -> x.cutRule(13, no, 0));
            refused(due, "left from " + no, () -> x.left(no, 13));
            refused(due, "left to " + no, () -> x.left(13, no));
        }
    }

    private static void refused(Due due, String name, Due.Call call) {
        due.throwsExactly(name, IllegalArgumentException.class, call);
    }

    private static void costs(Due due) {
        due.sentence("Terms 1, with a COST, 1 .. 9");
        FlowGuard x = new FlowGuard();
        refused(due, "rule of cost 0", () -> x.rule(0, 27, 0));
        due.is("rule of cost 1", 0, () -> x.rule(0, 1, 1));
        due.is("rule of cost 9", 1, () -> x.rule(1, 0, 9));
        refused(due, "rule of cost 10", () -> x.rule(0, 27, 10));
        due.is("cut of cost 1", 1, () -> x.cut(0, 1));
        due.is("cut of cost 9", 9, () -> x.cut(1, 0));
    }

    private static void numbers(Due due) {
        due.sentence("Terms 1, there are up to 90, numbered from 0 as they are made");
        FlowGuard x = new FlowGuard();
        for (int i = 0; i < 90; i++) {
            int number = i;
            due.is("rule " + number, number, () -> x.rule(number % 28, (number + 1) % 28, 1));
        }
        due.throwsExactly("one more", UnsupportedOperationException.class, () -> x.rule(0, 1, 1));
        for (int i = 0; i < 90; i++) {
            int number = i;
            due.is("rule " + number + " is there", true, () -> x.turn(number, true));
        }
        due.throwsExactly("rule 90 is not", IndexOutOfBoundsException.class, () -> x.turn(90, true));
        Ask.way(due, x, 0, 1, 0);
        Ask.cut(due, x, 5, 6, 4, 1 << 5, 5, 33, 61, 89);
    }

    private static void onAtFirst(Due due) {
        due.sentence("Terms 1, each on or off (on at first)");
        for (int rule : new int[] {0, 44, 89}) {
            FlowGuard x = Ask.ninety(0, 27, 1);
            due.is("was " + rule + " on at first", true, () -> x.turn(rule, true));
            due.is("it goes off alone", 89, () -> {
                x.turn(rule, false);
                return x.cut(0, 27);
            });
            due.is("it goes on again", 90, () -> {
                x.turn(rule, true);
                return x.cut(0, 27);
            });
        }
    }

    private static void byRulesThatAreOn(Due due) {
        due.sentence("Terms 2, by rules that are on");
        FlowGuard x = new FlowGuard();
        x.rule(0, 2, 1);
        x.rule(0, 1, 4);
        x.rule(1, 2, 5);
        x.rule(2, 0, 1);
        x.turn(0, false);
        Ask.way(due, x, 0, 2, 1, 2);
        due.is("passed", 1 << 1, () -> x.passed(0, 2));
        due.is("circle", 7, () -> x.circle(0));
        Ask.cut(due, x, 0, 2, 4, 1, 1);
        x.turn(3, false);
        due.is("circle without the rule back", 1, () -> x.circle(0));
        due.is("circles without it", 28, x::circles);
        x.turn(1, false);
        Ask.noWay(due, x, 0, 2);
        Ask.cut(due, x, 0, 2, 0, 1);
    }

    private static void withoutRulesIfOne(Due due) {
        due.sentence("Terms 2, without rules if they are one");
        FlowGuard x = Look.sample();
        // 3 and 27 stand in a circle of rules: the way to themselves goes by none of them.
        for (int node : new int[] {0, 13, 3, 27, 5}) {
            Ask.way(due, x, node, node);
            due.is("passed(" + node + ", " + node + ")", 0, () -> x.passed(node, node));
        }
        due.is("a node by itself has a way to itself", 1 << 13, () -> x.circle(13));
    }

    private static void fewestRules(Due due) {
        due.sentence("Terms 2, the LEAST way has the fewest rules");
        FlowGuard x = new FlowGuard();
        x.rule(0, 1, 1);
        x.rule(1, 2, 1);
        x.rule(2, 27, 1);
        Ask.way(due, x, 0, 27, 0, 1, 2);
        x.rule(1, 27, 9);
        Ask.way(due, x, 0, 27, 0, 3);
        x.rule(0, 27, 9);
        Ask.way(due, x, 0, 27, 4);
    }

    private static void leastRules(Due due) {
        due.sentence("Terms 2, of several the least first rule, then the least second one, and so on");
        FlowGuard x = new FlowGuard();
        x.rule(3, 6, 1);
        x.rule(4, 6, 1);
        x.rule(5, 6, 1);
        x.rule(2, 5, 9);
        x.rule(1, 4, 1);
        x.rule(1, 3, 1);
        x.rule(0, 2, 9);
        x.rule(0, 1, 1);
        // Of three rules each: 6 3 2, 7 4 1, 7 5 0.
        Ask.way(due, x, 0, 6, 6, 3, 2);
        x.turn(6, false);
        Ask.way(due, x, 0, 6, 7, 4, 1);
        x.turn(4, false);
        Ask.way(due, x, 0, 6, 7, 5, 0);
        x.rule(3, 6, 1);
        Ask.way(due, x, 0, 6, 7, 5, 0);
        x.turn(0, false);
        Ask.way(due, x, 0, 6, 7, 5, 8);
    }

    private static void leastOfTheSameNodes(Due due) {
        due.sentence("Terms 2, of several the least first rule, of rules between the same two nodes");
        FlowGuard x = Ask.ninety(27, 0, 1);
        Ask.way(due, x, 27, 0, 0);
        x.turn(0, false);
        Ask.way(due, x, 27, 0, 1);
        for (int rule = 1; rule < 89; rule++) {
            x.turn(rule, false);
        }
        Ask.way(due, x, 27, 0, 89);
        x.turn(43, true);
        Ask.way(due, x, 27, 0, 43);
    }

    private static void butItsLastOne(Due due) {
        due.sentence("Terms 2, PASSED between two others if each way has a rule that ends there but its last one");
        FlowGuard x = new FlowGuard();
        x.rule(0, 1, 1);
        x.rule(1, 2, 1);
        x.rule(2, 1, 1);
        x.rule(1, 0, 1);
        due.is("the last node is not passed", 0, () -> x.passed(0, 1));
        due.is("nor are both", 1 << 1, () -> x.passed(0, 2));
        due.is("nor is the first one that ways come back to", 1 << 1, () -> x.passed(2, 0));
        x.rule(0, 3, 1);
        x.rule(3, 4, 1);
        x.rule(4, 2, 1);
        due.is("a longer way past it", 0, () -> x.passed(0, 2));
        due.is("each way, not the least one", 1 << 3, () -> x.passed(0, 4));
    }

    private static void andThereIsAWay(Due due) {
        due.sentence("Terms 2, (and there is a way)");
        FlowGuard x = new FlowGuard();
        due.is("without rules", 0, () -> x.passed(0, 27));
        x.rule(0, 1, 1);
        x.rule(1, 2, 1);
        x.rule(3, 27, 1);
        due.is("two rows apart", 0, () -> x.passed(0, 27));
        x.rule(2, 3, 1);
        due.is("one row", 1 << 1 | 1 << 2 | 1 << 3, () -> x.passed(0, 27));
        due.is("against the rules", 0, () -> x.passed(27, 0));
        x.turn(3, false);
        due.is("two rows again", 0, () -> x.passed(0, 27));
    }

    private static void leastCosts(Due due) {
        due.sentence("Terms 2, the LEAST one has the least costs together");
        FlowGuard x = new FlowGuard();
        x.rule(0, 1, 9);
        x.rule(1, 27, 4);
        x.rule(1, 27, 4);
        Ask.cut(due, x, 0, 27, 8, 3, 1, 2);
        x.rule(1, 27, 2);
        Ask.cut(due, x, 0, 27, 9, 1, 0);
    }

    private static void fewestLeft(Due due) {
        due.sentence("Terms 2, of several the one for which fewest nodes are left with a way from the first node");
        FlowGuard x = new FlowGuard();
        x.rule(2, 27, 3);
        x.rule(1, 2, 2);
        x.rule(1, 2, 1);
        x.rule(0, 1, 3);
        // Fewest nodes, neither the least rule nor the fewest rules.
        Ask.cut(due, x, 0, 27, 3, 1, 3);
        Ask.cut(due, x, 1, 27, 3, 1 << 1, 1, 2);
        x.rule(0, 1, 1);
        Ask.cut(due, x, 0, 27, 3, 3, 1, 2);
        x.rule(1, 2, 9);
        Ask.cut(due, x, 0, 27, 3, 7, 0);
    }

    private static void fewestLeftOfMany(Due due) {
        due.sentence("Terms 2, of several the one for which fewest nodes are left, with nodes beside the ways");
        FlowGuard x = new FlowGuard();
        x.rule(0, 1, 2);
        x.rule(0, 2, 2);
        x.rule(1, 27, 2);
        x.rule(2, 27, 2);
        x.rule(0, 9, 1);
        x.rule(1, 10, 1);
        x.rule(27, 11, 1);
        // Four cuts of cost 4; 9 is left with a way in each of them, 10 where 1 is.
        Ask.cut(due, x, 0, 27, 4, 1 | 1 << 9, 0, 1);
        x.rule(0, 1, 1);
        Ask.cut(due, x, 0, 27, 4, 1 | 1 << 1 | 1 << 9 | 1 << 10, 1, 2);
        x.rule(10, 2, 1);
        Ask.cut(due, x, 0, 27, 4, 1 | 1 << 1 | 1 << 2 | 1 << 9 | 1 << 10, 2, 3);
    }

    private static void none(Due due) {
        due.sentence("The constants, NONE = -1");
        due.is("NONE", -1, () -> FlowGuard.NONE);
        due.is("no way", -1, () -> new FlowGuard().length(0, 27));
        due.is("no rule", -1, () -> new FlowGuard().cutRule(0, 27, 0));
    }
}
