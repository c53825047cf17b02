/** An object and the wide model beside it: each call is made of both, and both must answer the same. */
final class Both {
    static final int MOST_CALLS = 512;

    private final FlowGuard x = new FlowGuard();
    private final WideModel model = new WideModel();
    private final Due due;
    private final String name;
    private int calls = 0;

    Both(Due due, String name) {
        this.due = due;
        this.name = name;
    }

    /** Whether the object may be called once more. */
    boolean hasCallsLeft() {
        return calls < MOST_CALLS;
    }

    /** How many rules there are. */
    int count() {
        return model.count();
    }

    private void same(String call, Due.Call want, Due.Call got) {
        if (!hasCallsLeft()) {
            throw new IllegalStateException("the test calls an object more than 512 times");
        }
        calls++;
        due.is(name + ", call " + calls + ", " + call, Due.answerOf(want), got);
    }

    void clear() {
        same("clear()", () -> {
            model.clear();
            return "cleared";
        }, () -> {
            x.clear();
            return "cleared";
        });
    }

    void rule(int from, int to, int cost) {
        same("rule" + of(from, to, cost), () -> model.rule(from, to, cost), () -> x.rule(from, to, cost));
    }

    void turn(int rule, boolean on) {
        same("turn(" + rule + ", " + on + ")", () -> model.turn(rule, on), () -> x.turn(rule, on));
    }

    void length(int from, int to) {
        same("length" + of(from, to), () -> model.length(from, to), () -> x.length(from, to));
    }

    void step(int from, int to, int k) {
        same("step" + of(from, to, k), () -> model.step(from, to, k), () -> x.step(from, to, k));
    }

    void passed(int from, int to) {
        same("passed" + of(from, to), () -> model.passed(from, to), () -> x.passed(from, to));
    }

    void circle(int node) {
        same("circle" + of(node), () -> model.circle(node), () -> x.circle(node));
    }

    void circles() {
        same("circles()", model::circles, x::circles);
    }

    void cut(int from, int to) {
        same("cut" + of(from, to), () -> model.cut(from, to), () -> x.cut(from, to));
    }

    void cutRule(int from, int to, int k) {
        same("cutRule" + of(from, to, k), () -> model.cutRule(from, to, k), () -> x.cutRule(from, to, k));
    }

    void left(int from, int to) {
        same("left" + of(from, to), () -> model.left(from, to), () -> x.left(from, to));
    }

    private static String of(int... arguments) {
        StringBuilder text = new StringBuilder("(");
        for (int i = 0; i < arguments.length; i++) {
            text.append(i == 0 ? "" : ", ").append(arguments[i]);
        }
        return text.append(')').toString();
    }
}
