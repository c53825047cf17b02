/** What several tests ask of an object: a whole way, a whole cut, and calls that must be refused. */
final class Ask {
    interface OfTwoNodes {
        Object ask(FlowGuard x, int from, int to);
    }

    private static final int[] NO_NODES = {-1, 28, Integer.MIN_VALUE, Integer.MAX_VALUE};

    /** The least way has just these rules. */
    static void way(Due due, FlowGuard x, int from, int to, int... rules) {
        String name = "way from " + from + " to " + to;
        due.is(name + ", length", rules.length, () -> x.length(from, to));
        for (int i = 0; i < rules.length; i++) {
            int k = i;
            due.is(name + ", step " + k, rules[k], () -> x.step(from, to, k));
        }
        due.throwsExactly(name + ", step behind", IndexOutOfBoundsException.class,
            () -> x.step(from, to, rules.length));
        due.throwsExactly(name + ", step before", IndexOutOfBoundsException.class, () -> x.step(from, to, -1));
    }

    static void noWay(Due due, FlowGuard x, int from, int to) {
        String name = "no way from " + from + " to " + to;
        due.is(name + ", length", -1, () -> x.length(from, to));
        due.is(name + ", passed", 0, () -> x.passed(from, to));
        due.throwsExactly(name + ", step", IndexOutOfBoundsException.class, () -> x.step(from, to, 0));
    }

    /** The least cut has just these rules, this cost, and leaves these nodes. */
    static void cut(Due due, FlowGuard x, int from, int to, int cost, int left, int... rules) {
        String name = "cut of " + from + " and " + to;
        due.is(name + ", cost", cost, () -> x.cut(from, to));
        due.is(name + ", left", left, () -> x.left(from, to));
        for (int i = 0; i < rules.length; i++) {
            int k = i;
            due.is(name + ", rule " + k, rules[k], () -> x.cutRule(from, to, k));
        }
        due.is(name + ", behind the last one", -1, () -> x.cutRule(from, to, rules.length));
    }

    /** A call that is given a node that there isn't, on an object without rules and on one with some. */
    static void noSuchNode(Due due, String name, OfTwoNodes call) {
        for (int no : NO_NODES) {
            for (FlowGuard x : new FlowGuard[] {new FlowGuard(), Look.sample()}) {
                argument(due, name, x, no, 0, call);
                argument(due, name, x, no, 27, call);
                argument(due, name, x, 0, no, call);
                argument(due, name, x, 27, no, call);
                argument(due, name, x, no, no, call);
            }
        }
    }

    /** A call that is given one node twice, by itself and within a circle. */
    static void bothAreOne(Due due, String name, OfTwoNodes call) {
        for (FlowGuard x : new FlowGuard[] {new FlowGuard(), Look.sample()}) {
            for (int node = 0; node < 28; node++) {
                argument(due, name, x, node, node, call);
            }
        }
    }

    private static void argument(Due due, String name, FlowGuard x, int from, int to, OfTwoNodes call) {
        due.throwsExactly(name + " of " + from + " and " + to, IllegalArgumentException.class,
            () -> call.ask(x, from, to));
    }

    /** Each call but clear on an object without rules. It ends with the object's first rule. */
    static void withoutRules(Due due, String what, FlowGuard x) {
        due.is(what + ": circles", 28, x::circles);
        for (int i = 0; i < 28; i++) {
            int node = i;
            int other = 27 - i;
            due.is(what + ": circle", 1 << node, () -> x.circle(node));
            due.is(what + ": passed of one node", 0, () -> x.passed(node, node));
            way(due, x, node, node);
            noWay(due, x, node, other);
            cut(due, x, node, other, 0, 1 << node);
        }
        for (int rule : new int[] {-1, 0, 1, 89, 90}) {
            due.throwsExactly(what + ": turn " + rule, IndexOutOfBoundsException.class, () -> x.turn(rule, true));
            due.throwsExactly(what + ": turn " + rule, IndexOutOfBoundsException.class, () -> x.turn(rule, false));
        }
        due.is(what + ": the first rule", 0, () -> x.rule(3, 4, 5));
    }

    /** An object with as many rules as there may be, all of them alike and on. */
    static FlowGuard ninety(int from, int to, int cost) {
        FlowGuard x = new FlowGuard();
        for (int rule = 0; rule < 90; rule++) {
            x.rule(from, to, cost);
        }
        return x;
    }

    private Ask() {
    }
}
