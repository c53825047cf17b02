import java.util.List;
import java.util.Random;

/** The promises 3 to 12 on many small objects, against the document's terms tried out in full. */
public final class AgainstModelTest {
    private static final Due DUE = new Due();

    public static void main(String[] args) {
        // A fixed seed: each run of the test is the same.
        Random random = new Random(20);
        for (int run = 0; run < 400; run++) {
            oneObject(random, "run " + run);
        }
        DUE.end();
    }

    private static void oneObject(Random random, String run) {
        int[] nodes = {0, 27, 1 + random.nextInt(8), 9 + random.nextInt(8), 17 + random.nextInt(10)};
        FlowGuard x = new FlowGuard();
        Model model = new Model();
        // The cost of few kinds makes cuts of one cost likely.
        int kinds = random.nextBoolean() ? 2 : 9;
        int count = 4 + random.nextInt(9);
        for (int i = 0; i < count; i++) {
            int from = random.nextInt(nodes.length);
            int to = (from + 1 + random.nextInt(nodes.length - 1)) % nodes.length;
            makeRule(x, model, new Model.Rule(nodes[from], nodes[to], 1 + random.nextInt(kinds)), run);
        }
        for (int i = 0; i < count / 4; i++) {
            turnRule(x, model, random.nextInt(count), random.nextInt(3) == 0, run);
        }
        compare(x, model, nodes, run);
    }

    private static void makeRule(FlowGuard x, Model model, Model.Rule rule, String run) {
        DUE.is(run + " " + rule, model.rules.size(), () -> x.rule(rule.from(), rule.to(), rule.cost()));
        model.rules.add(rule);
        model.on.add(true);
    }

    private static void turnRule(FlowGuard x, Model model, int rule, boolean on, String run) {
        DUE.is(run + " turn(" + rule + ", " + on + ")", model.on.get(rule) == on, () -> x.turn(rule, on));
        model.on.set(rule, on);
    }

    private static void compare(FlowGuard x, Model model, int[] nodes, String run) {
        DUE.is(run + " circles()", model.circles(), x::circles);
        for (int from : nodes) {
            DUE.is(run + " circle(" + from + ")", model.circle(from), () -> x.circle(from));
            for (int to : nodes) {
                String pair = run + " " + from + " to " + to;
                compareWay(x, model, from, to, pair);
                DUE.is(pair + " passed", model.passed(from, to), () -> x.passed(from, to));
                if (from != to) {
                    compareCut(x, model.leastCut(from, to), from, to, pair);
                }
            }
        }
    }

    private static void compareWay(FlowGuard x, Model model, int from, int to, String pair) {
        List<Integer> way = model.leastWay(from, to);
        int length = way == null ? -1 : way.size();
        DUE.is(pair + " length", length, () -> x.length(from, to));
        for (int i = 0; i < length; i++) {
            int k = i;
            DUE.is(pair + " step " + k, way.get(k), () -> x.step(from, to, k));
        }
        DUE.throwsExactly(pair + " step behind", IndexOutOfBoundsException.class,
            () -> x.step(from, to, Math.max(0, length)));
    }

    private static void compareCut(FlowGuard x, Model.Cut cut, int from, int to, String pair) {
        DUE.is(pair + " cut", cut.cost(), () -> x.cut(from, to));
        DUE.is(pair + " left", cut.left(), () -> x.left(from, to));
        for (int i = 0; i < cut.rules().size(); i++) {
            int k = i;
            DUE.is(pair + " cutRule " + k, cut.rules().get(k), () -> x.cutRule(from, to, k));
        }
        DUE.is(pair + " cutRule behind", -1, () -> x.cutRule(from, to, cut.rules().size()));
    }
}
