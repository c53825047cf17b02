/** Promise 5, length, promise 6, step, and promise 7, passed. */
public final class WayTest {
    public static void main(String[] args) {
        Due due = new Due();
        due.part(WayTest::severalOfOneLength);
        due.part(WayTest::laterRulesDecide);
        due.part(WayTest::fewerRulesComeFirst);
        due.part(WayTest::withoutRules);
        due.part(WayTest::allNodesInARow);
        due.part(WayTest::passedNodes);
        due.part(WayTest::passedInCircles);
        due.end();
    }

    private static void severalOfOneLength(Due due) {
        FlowGuard x = new FlowGuard();
        x.rule(1, 27, 1);
        x.rule(0, 2, 9);
        x.rule(0, 1, 1);
        x.rule(2, 27, 9);
        // The first rule decides, though the second one is less on the other way, and the costs too.
        Ask.way(due, x, 0, 27, 1, 3);
        x.turn(1, false);
        Ask.way(due, x, 0, 27, 2, 0);
        x.turn(1, true);
        x.turn(3, false);
        Ask.way(due, x, 0, 27, 2, 0);
        x.turn(0, false);
        Ask.noWay(due, x, 0, 27);
        Ask.noWay(due, x, 27, 0);
    }

    private static void laterRulesDecide(Due due) {
        FlowGuard x = new FlowGuard();
        x.rule(4, 5, 1);
        x.rule(3, 5, 1);
        x.rule(2, 4, 1);
        x.rule(2, 3, 1);
        x.rule(1, 2, 1);
        x.rule(1, 2, 1);
        Ask.way(due, x, 1, 5, 4, 2, 0);
        x.turn(0, false);
        Ask.way(due, x, 1, 5, 4, 3, 1);
        x.turn(4, false);
        Ask.way(due, x, 1, 5, 5, 3, 1);
    }

    private static void fewerRulesComeFirst(Due due) {
        FlowGuard x = new FlowGuard();
        x.rule(0, 1, 1);
        x.rule(1, 2, 1);
        x.rule(2, 3, 1);
        x.rule(1, 3, 9);
        x.rule(3, 0, 1);
        Ask.way(due, x, 0, 3, 0, 3);
        x.rule(0, 3, 9);
        Ask.way(due, x, 0, 3, 5);
        Ask.way(due, x, 3, 2, 4, 0, 1);
    }

    private static void withoutRules(Due due) {
        FlowGuard x = new FlowGuard();
        x.rule(0, 27, 1);
        x.rule(27, 0, 1);
        Ask.way(due, x, 0, 0);
        Ask.way(due, x, 27, 27);
        Ask.way(due, x, 13, 13);
        due.is("passed(0, 0) on a circle", 0, () -> x.passed(0, 0));
        due.is("passed(13, 13)", 0, () -> x.passed(13, 13));
    }

    private static void allNodesInARow(Due due) {
        // The rules are made from the last one on, and then from the first one on.
        FlowGuard x = new FlowGuard();
        for (int node = 26; node >= 0; node--) {
            x.rule(node, node + 1, 1);
        }
        due.is("longest way", 27, () -> x.length(0, 27));
        due.is("its first rule", 26, () -> x.step(0, 27, 0));
        due.is("its last rule", 0, () -> x.step(0, 27, 26));
        due.throwsExactly("behind it", IndexOutOfBoundsException.class, () -> x.step(0, 27, 27));
        due.is("all between are passed", (1 << 27) - 2, () -> x.passed(0, 27));
        due.is("no way back", -1, () -> x.length(27, 0));

        FlowGuard y = new FlowGuard();
        for (int node = 0; node < 27; node++) {
            y.rule(node + 1, node, 1);
        }
        due.is("longest way back", 27, () -> y.length(27, 0));
        due.is("its first rule", 26, () -> y.step(27, 0, 0));
        due.is("its last rule", 0, () -> y.step(27, 0, 26));
        due.is("all between are passed", (1 << 27) - 2, () -> y.passed(27, 0));
    }

    private static void passedNodes(Due due) {
        FlowGuard x = new FlowGuard();
        x.rule(0, 1, 1);
        x.rule(0, 2, 1);
        x.rule(1, 3, 1);
        x.rule(2, 3, 1);
        x.rule(3, 27, 1);
        x.rule(27, 5, 1);
        x.rule(3, 6, 1);
        due.is("passed(0, 5)", 1 << 3 | 1 << 27, () -> x.passed(0, 5));
        due.is("passed(0, 27): not the last node itself", 1 << 3, () -> x.passed(0, 27));
        due.is("passed(0, 3): neither of two ways' nodes", 0, () -> x.passed(0, 3));
        due.is("passed(0, 1): one rule", 0, () -> x.passed(0, 1));
        due.is("passed(5, 0): no way", 0, () -> x.passed(5, 0));
        due.is("passed(0, 9): no way", 0, () -> x.passed(0, 9));
        x.turn(0, false);
        due.is("passed(0, 5) by one way", 1 << 2 | 1 << 3 | 1 << 27, () -> x.passed(0, 5));
        // A longer way round a node takes it out as well as a shorter one does.
        x.rule(2, 8, 1);
        x.rule(8, 9, 1);
        x.rule(9, 10, 1);
        x.rule(10, 27, 1);
        due.is("passed(0, 5) with a longer way", 1 << 2 | 1 << 27, () -> x.passed(0, 5));
        x.rule(27, 0, 1);
        due.is("passed(27, 8): node 0 is passed", 1 | 1 << 2, () -> x.passed(27, 8));
    }

    private static void passedInCircles(Due due) {
        FlowGuard x = new FlowGuard();
        x.rule(0, 1, 1);
        x.rule(1, 0, 1);
        x.rule(1, 2, 1);
        x.rule(2, 1, 1);
        // A way may come back to its first node or to its last one, but not each way does.
        due.is("passed(0, 2)", 1 << 1, () -> x.passed(0, 2));
        due.is("passed(0, 1)", 0, () -> x.passed(0, 1));
        due.is("passed(2, 0)", 1 << 1, () -> x.passed(2, 0));
    }
}
