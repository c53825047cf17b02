import java.util.Random;

/**
 * The promises 3 to 12 in each kind of state that a run of at most 512 calls can reach, with right
 * and wrong arguments, against the wide model.
 */
public final class StatesTest {
    private interface Build {
        void with(Both both, Random random);
    }

    private static final int OBJECTS = 8;
    private static final int[] NO_NODES = {-1, 28, Integer.MIN_VALUE, Integer.MAX_VALUE};
    private static final Due DUE = new Due();

    public static void main(String[] args) {
        in("with no rules", (both, random) -> { });
        in("with one rule", (both, random) -> makeRules(both, random, 1));
        in("with some", (both, random) -> makeRules(both, random, 10 + random.nextInt(60)));
        in("with 89", (both, random) -> makeRules(both, random, 89));
        in("with 90", (both, random) -> makeRules(both, random, 90));
        in("with some on and off", (both, random) -> {
            makeRules(both, random, 10 + random.nextInt(60));
            turnRules(both, random);
        });
        in("with 90 on and off", (both, random) -> {
            makeRules(both, random, 90);
            turnRules(both, random);
        });
        in("with 90 off", (both, random) -> {
            makeRules(both, random, 90);
            turnAll(both, false);
        });
        in("with 90 off and on again", (both, random) -> {
            makeRules(both, random, 90);
            turnAll(both, false);
            turnAll(both, true);
        });
        in("after clear() of some", (both, random) -> {
            makeRules(both, random, 30);
            both.clear();
        });
        in("after clear() of 90 on and off", (both, random) -> {
            makeRules(both, random, 90);
            turnRules(both, random);
            both.clear();
        });
        in("after clear(), with some anew", (both, random) -> {
            makeRules(both, random, 90);
            turnRules(both, random);
            both.clear();
            makeRules(both, random, 40);
        });
        in("after clear(), with 90 anew, on and off", (both, random) -> {
            makeRules(both, random, 90);
            turnAll(both, false);
            both.clear();
            makeRules(both, random, 90);
            turnRules(both, random);
        });
        DUE.part(due -> changing());
        DUE.end();
    }

    // ---- the states

    private static void in(String state, Build build) {
        DUE.part(due -> {
            due.sentence("Promises 3 to 12, " + state);
            for (int seed = 0; seed < OBJECTS; seed++) {
                Random random = new Random(seed);
                Both both = new Both(due, "object " + seed);
                build.with(both, random);
                while (both.hasCallsLeft()) {
                    ask(both, random);
                }
            }
        });
    }

    /** Rules that go a short way on give long ways and cuts in the middle; few nodes give many circles. */
    private static void makeRules(Both both, Random random, int count) {
        int nodes = random.nextInt(3) == 0 ? 9 : 28;
        int reach = random.nextBoolean() ? nodes - 1 : 3;
        int kinds = random.nextBoolean() ? 2 : 9;
        for (int i = 0; i < count; i++) {
            int from = random.nextInt(nodes);
            // The last nodes, so that the last bits are used.
            int to = (from + 1 + random.nextInt(reach)) % nodes;
            both.rule(27 - from, 27 - to, 1 + random.nextInt(kinds));
        }
    }

    private static void turnRules(Both both, Random random) {
        for (int i = 0; i < both.count() / 2; i++) {
            both.turn(random.nextInt(both.count()), random.nextInt(4) == 0);
        }
    }

    private static void turnAll(Both both, boolean on) {
        for (int rule = 0; rule < both.count(); rule++) {
            both.turn(rule, on);
        }
    }

    /** Runs in which the state changes between any two questions. */
    private static void changing() {
        DUE.sentence("Promises 2 to 12, in runs that change the rules all the time");
        for (int seed = 0; seed < OBJECTS; seed++) {
            Random random = new Random(seed);
            Both both = new Both(DUE, "changing " + seed);
            while (both.hasCallsLeft()) {
                change(both, random, seed % 2 == 0 ? 150 : 10000);
                if (both.hasCallsLeft()) {
                    ask(both, random);
                }
            }
        }
    }

    private static void change(Both both, Random random, int seldom) {
        int which = random.nextInt(seldom);
        if (which == 0) {
            both.clear();
        } else if (which % 3 == 0 && both.count() > 0) {
            both.turn(random.nextInt(both.count()), random.nextBoolean());
        } else {
            int from = random.nextInt(28);
            both.rule(from, (from + 1 + random.nextInt(4)) % 28, 1 + random.nextInt(9));
        }
    }

    // ---- calls that leave the state as it is

    private static void ask(Both both, Random random) {
        int from = node(random);
        int to = node(random);
        int k = random.nextInt(6) == 0 ? NO_NODES[random.nextInt(4)] : random.nextInt(5);
        switch (random.nextInt(10)) {
            case 0 -> both.length(from, to);
            case 1 -> both.step(from, to, k);
            case 2 -> both.passed(from, to);
            case 3 -> both.circle(from);
            case 4 -> both.circles();
            case 5 -> both.cut(from, to);
            case 6 -> both.cutRule(from, to, k);
            case 7 -> both.left(from, to);
            case 8 -> refusedRule(both, random);
            default -> refusedTurn(both, random);
        }
    }

    private static int node(Random random) {
        return random.nextInt(25) == 0 ? NO_NODES[random.nextInt(4)] : random.nextInt(28);
    }

    private static void refusedRule(Both both, Random random) {
        int node = random.nextInt(28);
        int other = (node + 1) % 28;
        int no = NO_NODES[random.nextInt(4)];
        switch (random.nextInt(5)) {
            case 0 -> both.rule(no, node, 1);
            case 1 -> both.rule(node, no, 1);
            case 2 -> both.rule(node, node, 1);
            case 3 -> both.rule(node, other, random.nextBoolean() ? 0 : 10);
            default -> both.rule(node, other, both.count() == 90 ? 1 + random.nextInt(9) : no);
        }
    }

    private static void refusedTurn(Both both, Random random) {
        int[] no = {-1, both.count(), both.count() + 1, 90, Integer.MIN_VALUE, Integer.MAX_VALUE};
        both.turn(no[random.nextInt(no.length)], random.nextBoolean());
    }
}
