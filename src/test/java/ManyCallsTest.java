import java.util.ArrayList;
import java.util.List;
import java.util.Random;

/**
 * "An object is used for at most 512 calls": the last of 512 is answered as the first one is. What
 * is due of a question is what a new object with the same rules answers.
 */
public final class ManyCallsTest {
    private record Rule(int from, int to, int cost) {
    }

    private interface Use {
        Object of(FlowGuard x);
    }

    private static final int CALLS = 512;
    private static final Due DUE = new Due();

    private final FlowGuard x = new FlowGuard();
    private final List<Rule> rules = new ArrayList<>();
    private final List<Boolean> on = new ArrayList<>();
    private final Random random;

    private ManyCallsTest(int seed) {
        random = new Random(seed);
    }

    public static void main(String[] args) {
        DUE.part(ManyCallsTest::allKindsOfCalls);
        DUE.part(ManyCallsTest::manyRefused);
        DUE.part(ManyCallsTest::manyCleared);
        DUE.part(ManyCallsTest::manyTurned);
        DUE.part(ManyCallsTest::manyCuts);
        DUE.end();
    }

    // ---- calls of all kinds

    private static void allKindsOfCalls(Due due) {
        due.sentence("What it is, at most 512 calls, of all kinds");
        for (int seed = 0; seed < 20; seed++) {
            new ManyCallsTest(seed).allKinds(seed);
        }
    }

    private void allKinds(int seed) {
        // Some runs clear often, some have 90 rules soon and keep them.
        int clears = seed % 2 == 0 ? 200 : 100000;
        int makes = 5 + seed % 20 * 10;
        for (int call = 1; call <= CALLS; call++) {
            String name = "run " + seed + ", call " + call + ", ";
            if (random.nextInt(clears) == 0) {
                clear();
            } else if (call <= makes && rules.size() < 90) {
                makeRule(name);
            } else if (random.nextInt(4) == 0 && !rules.isEmpty()) {
                turnRule(name);
            } else {
                question(name);
            }
        }
    }

    private void clear() {
        x.clear();
        rules.clear();
        on.clear();
    }

    private void makeRule(String name) {
        int from = random.nextInt(28);
        Rule rule = new Rule(from, (from + 1 + random.nextInt(5)) % 28, 1 + random.nextInt(9));
        DUE.is(name + rule, rules.size(), () -> x.rule(rule.from(), rule.to(), rule.cost()));
        rules.add(rule);
        on.add(true);
    }

    private void turnRule(String name) {
        int rule = random.nextInt(rules.size());
        boolean to = random.nextInt(3) != 0;
        DUE.is(name + "turn " + rule, on.get(rule) == to, () -> x.turn(rule, to));
        on.set(rule, to);
    }

    private void question(String name) {
        int a = random.nextInt(28);
        int b = (a + 1 + random.nextInt(27)) % 28;
        int k = random.nextInt(3);
        switch (random.nextInt(8)) {
            case 0 -> same(name + "length", y -> y.length(a, b));
            case 1 -> same(name + "step", y -> y.step(a, b, k));
            case 2 -> same(name + "passed", y -> y.passed(a, b));
            case 3 -> same(name + "circle", y -> y.circle(a));
            case 4 -> same(name + "circles", FlowGuard::circles);
            case 5 -> same(name + "cut", y -> y.cut(a, b));
            case 6 -> same(name + "cutRule", y -> y.cutRule(a, b, k));
            default -> same(name + "left", y -> y.left(a, b));
        }
    }

    private void same(String name, Use use) {
        FlowGuard fresh = new FlowGuard();
        for (int r = 0; r < rules.size(); r++) {
            fresh.rule(rules.get(r).from(), rules.get(r).to(), rules.get(r).cost());
            fresh.turn(r, on.get(r));
        }
        DUE.is(name, Due.answerOf(() -> use.of(fresh)), () -> use.of(x));
    }

    // ---- one kind of call again and again

    private static void manyRefused(Due due) {
        due.sentence("What it is, at most 512 calls, which throw");
        FlowGuard x = new FlowGuard();
        for (int call = 1; call < CALLS; call++) {
            due.throwsExactly("refused call " + call, IllegalArgumentException.class, () -> x.rule(0, 0, 1));
        }
        due.is("the first rule, call 512", 0, () -> x.rule(0, 27, 9));
    }

    private static void manyCleared(Due due) {
        due.sentence("What it is, at most 512 calls, clear and the rules after it");
        FlowGuard x = new FlowGuard();
        for (int turn = 0; turn < 5; turn++) {
            for (int i = 0; i < 90; i++) {
                int want = i;
                due.is("rule " + want + " after " + turn + " times 90", want,
                    () -> x.rule(want % 28, 27 - want % 28, 9));
            }
            x.clear();
        }
        for (int i = 455; i < CALLS; i++) {
            int want = i - 455;
            due.is("rule " + want + " after 5 times 90", want, () -> x.rule(0, 27, 9));
        }

        FlowGuard y = new FlowGuard();
        for (int call = 1; call < CALLS; call++) {
            y.clear();
        }
        due.is("the first rule after 511 times clear", 0, () -> y.rule(0, 27, 9));
    }

    private static void manyTurned(Due due) {
        due.sentence("What it is, at most 512 calls, turn");
        FlowGuard x = new FlowGuard();
        x.rule(27, 0, 9);
        for (int call = 2; call < CALLS; call++) {
            boolean to = call % 2 == 1;
            due.is("turn, call " + call, false, () -> x.turn(0, to));
        }
        due.is("length, call 512", 1, () -> x.length(27, 0));
    }

    private static void manyCuts(Due due) {
        due.sentence("What it is, at most 512 calls, cut");
        FlowGuard x = Ask.ninety(0, 27, 9);
        for (int call = 91; call <= CALLS; call++) {
            due.is("cut, call " + call, 810, () -> x.cut(0, 27));
        }
    }
}
