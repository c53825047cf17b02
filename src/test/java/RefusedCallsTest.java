import java.util.ArrayList;
import java.util.List;
import java.util.Random;

/**
 * "A call that throws changes nothing.": runs of calls, each of which is made once as it is and once
 * with a call that throws before each of its own, and answers the same. WrongCallsTest tells more
 * of the arguments with which a call throws.
 */
public final class RefusedCallsTest {
    private interface Use {
        Object of(FlowGuard x);
    }

    /** A call of a run, and how many rules there are when it is made. */
    private record Step(String name, int rules, Use use) {
    }

    private interface Refused {
        Object of(FlowGuard x, int rules);
    }

    private static final Class<? extends RuntimeException> ARGUMENT = IllegalArgumentException.class;
    private static final Class<? extends RuntimeException> INDEX = IndexOutOfBoundsException.class;
    private static final Class<? extends RuntimeException> UNSUPPORTED = UnsupportedOperationException.class;
    private static final int[] HOW_MANY_RULES = {0, 1, 9, 30, 60, 89, 90, 90, 90, 90, 90, 90};
    // With as many calls that throw these stay within the 512 of an object.
    private static final int MOST_CALLS = 250;
    private static final Due DUE = new Due();
    private static final List<List<Step>> RUNS = new ArrayList<>();

    public static void main(String[] args) {
        Random random = new Random(512);
        for (int rules : HOW_MANY_RULES) {
            RUNS.add(run(random, rules));
        }
        rule();
        turn();
        length();
        step();
        passed();
        circle();
        cut();
        cutRule();
        left();
        DUE.end();
    }

    // ---- the calls that throw

    private static void rule() {
        DUE.sentence("A call that throws changes nothing, rule");
        for (int no : new int[] {-1, 28, Integer.MIN_VALUE, Integer.MAX_VALUE}) {
            changesNothing("from " + no, ARGUMENT, (x, rules) -> x.rule(no, 27, 9));
            changesNothing("to " + no, ARGUMENT, (x, rules) -> x.rule(0, no, 9));
        }
        for (int cost : new int[] {0, 10, -1, Integer.MIN_VALUE, Integer.MAX_VALUE}) {
            changesNothing("of cost " + cost, ARGUMENT, (x, rules) -> x.rule(0, 27, cost));
        }
        changesNothing("of one node", ARGUMENT, (x, rules) -> x.rule(1, 1, 9));
        changesNothingWhenFull("when there are 90", (x, rules) -> x.rule(0, 27, 9));
    }

    private static void turn() {
        DUE.sentence("A call that throws changes nothing, turn");
        for (boolean on : new boolean[] {true, false}) {
            changesNothing("-1 to " + on, INDEX, (x, rules) -> x.turn(-1, on));
            changesNothing("one behind the last to " + on, INDEX, (x, rules) -> x.turn(rules, on));
            changesNothing("90 to " + on, INDEX, (x, rules) -> x.turn(90, on));
            changesNothing("the least int to " + on, INDEX, (x, rules) -> x.turn(Integer.MIN_VALUE, on));
            changesNothing("the greatest int to " + on, INDEX, (x, rules) -> x.turn(Integer.MAX_VALUE, on));
        }
    }

    private static void length() {
        DUE.sentence("A call that throws changes nothing, length");
        noSuchNode(FlowGuard::length);
    }

    private static void step() {
        DUE.sentence("A call that throws changes nothing, step");
        noSuchNode((x, from, to) -> x.step(from, to, 0));
        changesNothing("-1", INDEX, (x, rules) -> x.step(0, 1, -1));
        // No way has more than 27 rules.
        changesNothing("27", INDEX, (x, rules) -> x.step(1, 2, 27));
        changesNothing("the greatest int", INDEX, (x, rules) -> x.step(2, 0, Integer.MAX_VALUE));
        changesNothing("of a way without rules", INDEX, (x, rules) -> x.step(1, 1, 0));
    }

    private static void passed() {
        DUE.sentence("A call that throws changes nothing, passed");
        noSuchNode(FlowGuard::passed);
    }

    private static void circle() {
        DUE.sentence("A call that throws changes nothing, circle");
        changesNothing("of -1", ARGUMENT, (x, rules) -> x.circle(-1));
        changesNothing("of 28", ARGUMENT, (x, rules) -> x.circle(28));
    }

    private static void cut() {
        DUE.sentence("A call that throws changes nothing, cut");
        noSuchNode(FlowGuard::cut);
        changesNothing("of one node", ARGUMENT, (x, rules) -> x.cut(1, 1));
    }

    private static void cutRule() {
        DUE.sentence("A call that throws changes nothing, cutRule");
        noSuchNode((x, from, to) -> x.cutRule(from, to, 0));
        changesNothing("of one node", ARGUMENT, (x, rules) -> x.cutRule(2, 2, 0));
        changesNothing("of a k below 0", ARGUMENT, (x, rules) -> x.cutRule(0, 1, -1));
        changesNothing("of the least k", ARGUMENT, (x, rules) -> x.cutRule(1, 0, Integer.MIN_VALUE));
    }

    private static void left() {
        DUE.sentence("A call that throws changes nothing, left");
        noSuchNode(FlowGuard::left);
        changesNothing("of one node", ARGUMENT, (x, rules) -> x.left(0, 0));
    }

    private static void noSuchNode(Ask.OfTwoNodes call) {
        for (int no : new int[] {-1, 28}) {
            changesNothing("from " + no, ARGUMENT, (x, rules) -> call.ask(x, no, 1));
            changesNothing("to " + no, ARGUMENT, (x, rules) -> call.ask(x, 1, no));
        }
    }

    // ---- the runs

    private static void changesNothing(String name, Class<? extends RuntimeException> want, Refused refused) {
        for (List<Step> run : RUNS) {
            compare(name, want, refused, run, 0);
        }
    }

    private static void changesNothingWhenFull(String name, Refused refused) {
        for (List<Step> run : RUNS) {
            compare(name, UNSUPPORTED, refused, run, 90);
        }
    }

    /** The run with and without calls that throw, where there are as many rules as this or more. */
    private static void compare(String name, Class<? extends RuntimeException> want, Refused refused, List<Step> run,
            int fewestRules) {
        FlowGuard without = new FlowGuard();
        FlowGuard with = new FlowGuard();
        for (Step step : run) {
            if (step.rules() >= fewestRules) {
                DUE.throwsExactly(name, want, () -> refused.of(with, step.rules()));
            }
            Object due = Due.answerOf(() -> step.use().of(without));
            DUE.is(step.name() + " after refused calls, " + name, due, () -> step.use().of(with));
        }
    }

    /** A run that makes this many rules, asks and turns them, clears them, and begins anew. */
    private static List<Step> run(Random random, int rules) {
        List<Step> run = new ArrayList<>();
        for (int made = 0; made < rules; made++) {
            run.add(makeRule(random, made));
        }
        while (run.size() < MOST_CALLS - 60) {
            run.add(random.nextInt(3) == 0 ? turnRule(random, rules) : question(random, rules));
        }
        run.add(new Step("clear", rules, x -> {
            x.clear();
            return "cleared";
        }));
        for (int made = 0; made < 30; made++) {
            run.add(makeRule(random, made));
        }
        while (run.size() < MOST_CALLS) {
            run.add(question(random, 30));
        }
        return run;
    }

    /** Few nodes, so that there are ways, and the last ones. */
    private static int node(Random random) {
        return new int[] {0, 1, 2, 3, 4, 5, 14, 26, 27}[random.nextInt(9)];
    }

    private static Step makeRule(Random random, int rules) {
        int from = node(random);
        int other = node(random);
        int to = other == from ? (from + 1) % 28 : other;
        int cost = 1 + random.nextInt(9);
        return new Step("rule(" + from + ", " + to + ", " + cost + ")", rules, x -> x.rule(from, to, cost));
    }

    /** Any rule, and often the first or the last one: the likeliest that a refused call would change. */
    private static Step turnRule(Random random, int rules) {
        int rule = new int[] {0, rules - 1, random.nextInt(rules + 1)}[random.nextInt(3)];
        boolean on = random.nextBoolean();
        return new Step("turn(" + rule + ", " + on + ")", rules, x -> x.turn(rule, on));
    }

    private static Step question(Random random, int rules) {
        int a = node(random);
        int b = node(random);
        int k = random.nextInt(4);
        String of = " of " + a + ", " + b + ", " + k;
        return switch (random.nextInt(8)) {
            case 0 -> new Step("length" + of, rules, x -> x.length(a, b));
            case 1 -> new Step("step" + of, rules, x -> x.step(a, b, k));
            case 2 -> new Step("passed" + of, rules, x -> x.passed(a, b));
            case 3 -> new Step("circle" + of, rules, x -> x.circle(a));
            case 4 -> new Step("circles", rules, FlowGuard::circles);
            case 5 -> new Step("cut" + of, rules, x -> x.cut(a, b));
            case 6 -> new Step("cutRule" + of, rules, x -> x.cutRule(a, b, k));
            default -> new Step("left" + of, rules, x -> x.left(a, b));
        };
    }
}
