/** Wrong inputs of the promises 3 to 12: what each call throws, and that it changes nothing. */
public final class WrongCallsTest {
    private interface Use {
        Object of(FlowGuard x);
    }

    private static final Class<? extends RuntimeException> ARGUMENT = IllegalArgumentException.class;
    private static final Class<? extends RuntimeException> INDEX = IndexOutOfBoundsException.class;
    private static final Class<? extends RuntimeException> UNSUPPORTED = UnsupportedOperationException.class;
    private static final int[] NO_NODES = {-1, 28, 31, 32, 60, Integer.MIN_VALUE, Integer.MAX_VALUE};

    private static final Due DUE = new Due();
    private static final String BEFORE = Look.at(Look.sample());

    public static void main(String[] args) {
        for (int no : NO_NODES) {
            noSuchNode(no);
        }
        for (int node : new int[] {0, 1, 5, 27}) {
            bothAreOne(node);
        }
        for (int cost : new int[] {0, 10, -1, -9, Integer.MIN_VALUE, Integer.MAX_VALUE}) {
            wrong("rule(0, 27, " + cost + ")", ARGUMENT, x -> x.rule(0, 27, cost));
        }
        for (int rule : new int[] {-1, 9, 10, 89, 90, 91, Integer.MIN_VALUE, Integer.MAX_VALUE}) {
            wrong("turn(" + rule + ", true)", INDEX, x -> x.turn(rule, true));
            wrong("turn(" + rule + ", false)", INDEX, x -> x.turn(rule, false));
        }
        noSuchK();
        ninetyRules();
        DUE.end();
    }

    private static void wrong(String name, Class<? extends RuntimeException> want, Use use) {
        FlowGuard x = Look.sample();
        DUE.throwsExactly(name, want, () -> use.of(x));
        DUE.is("a look after " + name, BEFORE, () -> Look.at(x));
    }

    private static void noSuchNode(int no) {
        wrong("rule from " + no, ARGUMENT, x -> x.rule(no, 1, 1));
        wrong("rule to " + no, ARGUMENT, x -> x.rule(1, no, 1));
        wrong("length from " + no, ARGUMENT, x -> x.length(no, 1));
        wrong("length to " + no, ARGUMENT, x -> x.length(1, no));
        wrong("length with itself " + no, ARGUMENT, x -> x.length(no, no));
        wrong("step from " + no, ARGUMENT, x -> x.step(no, 1, 0));
        wrong("step to " + no, ARGUMENT, x -> x.step(1, no, 0));
        wrong("step to " + no + " of no such k", ARGUMENT, x -> x.step(1, no, -1));
        wrong("passed from " + no, ARGUMENT, x -> x.passed(no, 1));
        wrong("passed to " + no, ARGUMENT, x -> x.passed(1, no));
        wrong("passed with itself " + no, ARGUMENT, x -> x.passed(no, no));
        wrong("circle of " + no, ARGUMENT, x -> x.circle(no));
        wrong("cut from " + no, ARGUMENT, x -> x.cut(no, 1));
        wrong("cut to " + no, ARGUMENT, x -> x.cut(1, no));
        wrong("cutRule from " + no, ARGUMENT, x -> x.cutRule(no, 1, 0));
        wrong("cutRule to " + no, ARGUMENT, x -> x.cutRule(1, no, 0));
        wrong("left from " + no, ARGUMENT, x -> x.left(no, 1));
        wrong("left to " + no, ARGUMENT, x -> x.left(1, no));
    }

    private static void bothAreOne(int node) {
        wrong("rule of one node " + node, ARGUMENT, x -> x.rule(node, node, 1));
        wrong("cut of one node " + node, ARGUMENT, x -> x.cut(node, node));
        wrong("cutRule of one node " + node, ARGUMENT, x -> x.cutRule(node, node, 0));
        wrong("left of one node " + node, ARGUMENT, x -> x.left(node, node));
        wrong("step of a way without rules at " + node, INDEX, x -> x.step(node, node, 0));
    }

    private static void noSuchK() {
        for (int k : new int[] {-1, 4, 5, 28, 90, Integer.MIN_VALUE, Integer.MAX_VALUE}) {
            wrong("step(0, 27, " + k + ")", INDEX, x -> x.step(0, 27, k));
        }
        for (int k : new int[] {-1, 0, 1, Integer.MIN_VALUE, Integer.MAX_VALUE}) {
            wrong("step without a way, " + k, INDEX, x -> x.step(27, 0, k));
        }
        for (int k : new int[] {-1, -2, Integer.MIN_VALUE}) {
            wrong("cutRule(0, 4, " + k + ")", ARGUMENT, x -> x.cutRule(0, 4, k));
            wrong("cutRule without a way, " + k, ARGUMENT, x -> x.cutRule(27, 0, k));
        }
    }

    /** The last rule goes between nodes that are looked at, the others don't: so a look is short. */
    private static FlowGuard full() {
        FlowGuard x = Look.sample();
        for (int rule = 9; rule < 89; rule++) {
            x.rule(10 + rule % 7, 20 + rule % 6, 9);
        }
        x.rule(1, 27, 2);
        x.turn(9, false);
        x.turn(88, false);
        return x;
    }

    private static void ninetyRules() {
        String before = Look.at(full());
        FlowGuard one = full();
        DUE.throwsExactly("rule 91", UNSUPPORTED, () -> one.rule(0, 1, 1));
        DUE.throwsExactly("rule 91 once more", UNSUPPORTED, () -> one.rule(27, 26, 9));
        DUE.is("a look after rule 91", before, () -> Look.at(one));

        // What is wrong with the arguments comes first, as it does in the document.
        FlowGuard two = full();
        DUE.throwsExactly("rule 91 of one node", ARGUMENT, () -> two.rule(1, 1, 1));
        DUE.throwsExactly("rule 91 to 28", ARGUMENT, () -> two.rule(1, 28, 1));
        DUE.throwsExactly("rule 91 of cost 10", ARGUMENT, () -> two.rule(1, 2, 10));
        DUE.throwsExactly("turn(90)", INDEX, () -> two.turn(90, true));
        DUE.is("a look after them", before, () -> Look.at(two));
    }
}
