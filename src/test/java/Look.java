/**
 * Tells an object's state by its answers, to see that a call has changed nothing. It takes some 200
 * calls (and one for each rule) and turns rules on, so it is the last thing done with an object,
 * which is used for no more than 512 calls.
 */
final class Look {
    private static final int[] NODES = {0, 1, 3, 4, 27};

    static String at(FlowGuard x) {
        StringBuilder seen = new StringBuilder();
        seen.append("circles ").append(x.circles());
        for (int from : NODES) {
            seen.append("\ncircle ").append(x.circle(from));
            for (int to : NODES) {
                lookAtPair(seen, x, from, to);
            }
        }
        lookAtRules(seen, x);
        return seen.toString();
    }

    private static void lookAtPair(StringBuilder seen, FlowGuard x, int from, int to) {
        seen.append('\n').append(from).append(" to ").append(to);
        int length = x.length(from, to);
        seen.append(": length ").append(length).append(" passed ").append(x.passed(from, to)).append(" steps");
        for (int k = 0; k < length; k++) {
            seen.append(' ').append(x.step(from, to, k));
        }
        if (from == to) {
            return;
        }
        seen.append(" cut ").append(x.cut(from, to)).append(" left ").append(x.left(from, to)).append(" rules");
        int rule = x.cutRule(from, to, 0);
        for (int k = 1; rule != FlowGuard.NONE; k++) {
            seen.append(' ').append(rule);
            rule = x.cutRule(from, to, k);
        }
    }

    /** How many rules there are and which are on; whether the next one gets the next number. */
    private static void lookAtRules(StringBuilder seen, FlowGuard x) {
        seen.append("\nrules");
        int count = 0;
        Object was = Due.answerOf(() -> x.turn(0, true));
        while (was instanceof Boolean) {
            seen.append(' ').append(was);
            count++;
            int rule = count;
            was = Due.answerOf(() -> x.turn(rule, true));
        }
        seen.append(' ').append(was);
        seen.append(" next ").append(Due.answerOf(() -> x.rule(5, 6, 1)));
    }

    /** The document's example of the shared runs, with the last nodes, a circle and a rule off. */
    static FlowGuard sample() {
        FlowGuard x = new FlowGuard();
        x.rule(0, 1, 3);
        x.rule(0, 2, 2);
        x.rule(1, 3, 2);
        x.rule(2, 3, 3);
        x.rule(1, 2, 1);
        x.rule(3, 4, 9);
        x.rule(4, 27, 1);
        x.rule(27, 3, 1);
        x.rule(0, 27, 5);
        x.turn(8, false);
        return x;
    }

    private Look() {
    }
}
