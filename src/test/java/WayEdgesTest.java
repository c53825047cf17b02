/** The sentences of promise 5, length, 6, step, and 7, passed, that name a case of their own. */
public final class WayEdgesTest {
    private static final Class<? extends RuntimeException> ARGUMENT = IllegalArgumentException.class;
    private static final Class<? extends RuntimeException> INDEX = IndexOutOfBoundsException.class;
    private static final int LEAST = Integer.MIN_VALUE;
    private static final int MOST = Integer.MAX_VALUE;

    public static void main(String[] args) {
        Due due = new Due();
        due.part(WayEdgesTest::lengths);
        due.part(WayEdgesTest::lengthWithoutAWay);
        due.part(WayEdgesTest::lengthToItself);
        due.part(WayEdgesTest::lengthOfNoSuchNode);
        due.part(WayEdgesTest::stepsOfTheWay);
        due.part(WayEdgesTest::stepOfNoSuchNode);
        due.part(WayEdgesTest::noSuchStep);
        due.part(WayEdgesTest::stepOfAWayWithoutRules);
        due.part(WayEdgesTest::stepWithoutAWay);
        due.part(WayEdgesTest::passedNodes);
        due.part(WayEdgesTest::passedLastBits);
        due.part(WayEdgesTest::nonePassed);
        due.part(WayEdgesTest::passedToItself);
        due.part(WayEdgesTest::passedWithoutAWay);
        due.part(WayEdgesTest::passedOfNoSuchNode);
        due.end();
    }

    /** 0 to 1, 1 to 2 and so on: rule 0 is the first one, or the last one if they are made back. */
    private static FlowGuard row(boolean madeBack) {
        FlowGuard x = new FlowGuard();
        for (int i = 0; i < 27; i++) {
            int node = madeBack ? 26 - i : i;
            x.rule(node, node + 1, 1);
        }
        return x;
    }

    private static void lengths(Due due) {
        due.sentence("Promise 5, The length of the least way");
        for (boolean madeBack : new boolean[] {false, true}) {
            FlowGuard x = row(madeBack);
            for (int i = 0; i < 28; i++) {
                int node = i;
                due.is("length(0, " + node + ")", node, () -> x.length(0, node));
                due.is("length(" + node + ", 27)", 27 - node, () -> x.length(node, 27));
            }
        }
    }

    private static void lengthWithoutAWay(Due due) {
        due.sentence("Promise 5, NONE without a way");
        due.is("without rules", -1, () -> new FlowGuard().length(0, 27));
        FlowGuard x = row(false);
        due.is("against the rules", -1, () -> x.length(27, 0));
        due.is("against the last rule", -1, () -> x.length(27, 26));
        x.turn(26, false);
        due.is("without the last rule", -1, () -> x.length(0, 27));
        x.turn(26, true);
        due.is("with the last rule", 27, () -> x.length(0, 27));
        x.turn(0, false);
        due.is("without the first rule", -1, () -> x.length(0, 27));
        due.is("behind it", 26, () -> x.length(1, 27));
        x.clear();
        due.is("after clear", -1, () -> x.length(1, 27));
    }

    private static void lengthToItself(Due due) {
        due.sentence("Promise 5, The length of the least way from a node to itself");
        FlowGuard x = row(false);
        x.rule(27, 0, 1);
        for (int i = 0; i < 28; i++) {
            int node = i;
            due.is("on a circle of all, " + node, 0, () -> x.length(node, node));
            due.is("without rules, " + node, 0, () -> new FlowGuard().length(node, node));
        }
    }

    private static void lengthOfNoSuchNode(Due due) {
        due.sentence("Promise 5, IllegalArgumentException if there is no such node.");
        Ask.noSuchNode(due, "length", (x, from, to) -> x.length(from, to));
    }

    private static void stepsOfTheWay(Due due) {
        due.sentence("Promise 6, Rule k of the least way.");
        FlowGuard x = row(false);
        FlowGuard back = row(true);
        for (int i = 0; i < 27; i++) {
            int k = i;
            due.is("step " + k, k, () -> x.step(0, 27, k));
            due.is("step " + k + " of rules made back", 26 - k, () -> back.step(0, 27, k));
        }
    }

    private static void stepOfNoSuchNode(Due due) {
        due.sentence("Promise 6, IllegalArgumentException as for length()");
        Ask.noSuchNode(due, "step 0", (x, from, to) -> x.step(from, to, 0));
        // The document doesn't say which comes first: it is taken in the order of its words.
        Ask.noSuchNode(due, "step -1", (x, from, to) -> x.step(from, to, -1));
        Ask.noSuchNode(due, "step of the greatest k", (x, from, to) -> x.step(from, to, MOST));
        due.throwsExactly("and no other", INDEX, () -> new FlowGuard().step(0, 0, 0));
    }

    private static void noSuchStep(Due due) {
        due.sentence("Promise 6, IndexOutOfBoundsException if it has none such");
        FlowGuard x = row(false);
        due.is("the last of 27", 26, () -> x.step(0, 27, 26));
        noSteps(due, x, 0, 27, LEAST, -28, -2, -1, 27, 28, 90, MOST);
        due.is("the only one", 26, () -> x.step(26, 27, 0));
        noSteps(due, x, 26, 27, LEAST, -1, 1, 2, 26, 27, MOST);
        x.rule(0, 27, 1);
        due.is("the only one of a way that has become shorter", 27, () -> x.step(0, 27, 0));
        noSteps(due, x, 0, 27, -1, 1, 26, 27);
    }

    private static void stepOfAWayWithoutRules(Due due) {
        due.sentence("Promise 6, IndexOutOfBoundsException if it has none such, of a way without rules");
        FlowGuard x = row(false);
        x.rule(27, 0, 1);
        for (int node : new int[] {0, 13, 27}) {
            noSteps(due, x, node, node, LEAST, -1, 0, 1, 27, MOST);
            noSteps(due, new FlowGuard(), node, node, LEAST, -1, 0, 1, MOST);
        }
    }

    private static void stepWithoutAWay(Due due) {
        due.sentence("Promise 6, IndexOutOfBoundsException (or there is no way)");
        noSteps(due, new FlowGuard(), 0, 27, LEAST, -2, -1, 0, 1, MOST);
        FlowGuard x = row(false);
        noSteps(due, x, 27, 0, LEAST, -2, -1, 0, 1, 26, 27, MOST);
        x.turn(26, false);
        noSteps(due, x, 0, 27, LEAST, -2, -1, 0, 1, 25, 26, 27, MOST);
    }

    private static void noSteps(Due due, FlowGuard x, int from, int to, int... ks) {
        for (int k : ks) {
            due.throwsExactly("step(" + from + ", " + to + ", " + k + ")", INDEX, () -> x.step(from, to, k));
        }
    }

    private static void passedNodes(Due due) {
        due.sentence("Promise 7, The nodes that are passed between two, a bit each.");
        FlowGuard x = row(false);
        due.is("all but the first and the last", (1 << 27) - 2, () -> x.passed(0, 27));
        for (int i = 1; i < 27; i++) {
            int node = i;
            due.is("node " + node + " alone", 1 << node, () -> x.passed(node - 1, node + 1));
        }
        x.rule(12, 14, 1);
        due.is("all but one that a way goes round", ((1 << 27) - 2) & ~(1 << 13), () -> x.passed(0, 27));
    }

    private static void passedLastBits(Due due) {
        due.sentence("Promise 7, a bit each: those of the nodes 0 and 27");
        FlowGuard x = new FlowGuard();
        x.rule(1, 27, 1);
        x.rule(27, 2, 1);
        x.rule(2, 0, 1);
        x.rule(0, 3, 1);
        due.is("node 27", 1 << 27, () -> x.passed(1, 2));
        due.is("node 0", 1, () -> x.passed(2, 3));
        due.is("both", 1 | 1 << 2 | 1 << 27, () -> x.passed(1, 3));
    }

    private static void nonePassed(Due due) {
        due.sentence("Promise 7, The nodes that are passed, where there are none");
        FlowGuard x = new FlowGuard();
        x.rule(0, 27, 1);
        due.is("by one rule", 0, () -> x.passed(0, 27));
        x.turn(0, false);
        x.rule(0, 1, 1);
        x.rule(1, 27, 1);
        due.is("by two", 1 << 1, () -> x.passed(0, 27));
        x.rule(0, 2, 1);
        x.rule(2, 27, 1);
        due.is("by two ways", 0, () -> x.passed(0, 27));
        x.turn(4, false);
        due.is("by one way and one that ends elsewhere", 1 << 1, () -> x.passed(0, 27));
        x.turn(0, true);
        due.is("by one rule past it", 0, () -> x.passed(0, 27));
    }

    private static void passedToItself(Due due) {
        due.sentence("Promise 7, The nodes that are passed from a node to itself");
        FlowGuard x = row(false);
        x.rule(27, 0, 1);
        for (int i = 0; i < 28; i++) {
            int node = i;
            due.is("on a circle of all, " + node, 0, () -> x.passed(node, node));
            due.is("without rules, " + node, 0, () -> new FlowGuard().passed(node, node));
        }
    }

    private static void passedWithoutAWay(Due due) {
        due.sentence("Promise 7, The nodes that are passed without a way");
        FlowGuard x = row(false);
        due.is("without rules", 0, () -> new FlowGuard().passed(0, 27));
        due.is("against the rules", 0, () -> x.passed(27, 0));
        x.turn(13, false);
        due.is("without a rule between", 0, () -> x.passed(0, 27));
        due.is("before it", (1 << 13) - 2, () -> x.passed(0, 13));
    }

    private static void passedOfNoSuchNode(Due due) {
        due.sentence("Promise 7, IllegalArgumentException as for length().");
        Ask.noSuchNode(due, "passed", (x, from, to) -> x.passed(from, to));
        due.throwsExactly("with no such node and no way", ARGUMENT, () -> new FlowGuard().passed(28, 28));
        due.is("and no other: both are one", 0, () -> Look.sample().passed(4, 4));
    }
}
