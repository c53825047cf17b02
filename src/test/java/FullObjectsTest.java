import java.util.Random;

/**
 * The promises 5 to 12 on objects with all nodes and 90 rules, where trying everything takes too
 * long: here each answer is proved from others. Of the cut: a flow of the same amount shows that
 * none is cheaper; that each node left but the first one still gets more flow shows that none
 * leaves fewer.
 */
public final class FullObjectsTest {
    private static final int NODES = 28;
    private static final int RULES = 90;
    private static final int FAR = 1000;
    private static final Due DUE = new Due();

    private final int[] from = new int[RULES];
    private final int[] to = new int[RULES];
    private final int[] cost = new int[RULES];
    private final FlowGuard x = new FlowGuard();
    private final String name;

    private FullObjectsTest(Random random, int run) {
        name = "run " + run;
        // Rules that go a short way on give long ways and cuts in the middle.
        int reach = run % 2 == 0 ? 27 : 3;
        int kinds = run % 3 == 0 ? 2 : 9;
        for (int r = 0; r < RULES; r++) {
            from[r] = random.nextInt(NODES);
            to[r] = (from[r] + 1 + random.nextInt(reach)) % NODES;
            cost[r] = 1 + random.nextInt(kinds);
            x.rule(from[r], to[r], cost[r]);
        }
    }

    public static void main(String[] args) {
        Random random = new Random(90);
        for (int run = 0; run < 300; run++) {
            FullObjectsTest test = new FullObjectsTest(random, run);
            int[][] length = test.lengths(-1);
            test.circles(length);
            for (int pair = 0; pair < 4; pair++) {
                int a = random.nextInt(NODES);
                int b = (a + 1 + random.nextInt(NODES - 1)) % NODES;
                test.way(length, a, b);
                test.passed(length, a, b);
                test.cut(a, b);
            }
        }
        DUE.end();
    }

    /** The lengths between all nodes, without the rules of one node, by Floyd and Warshall. */
    private int[][] lengths(int without) {
        int[][] length = new int[NODES][NODES];
        for (int a = 0; a < NODES; a++) {
            for (int b = 0; b < NODES; b++) {
                length[a][b] = a == b ? 0 : FAR;
            }
        }
        for (int r = 0; r < RULES; r++) {
            if (from[r] != without && to[r] != without) {
                length[from[r]][to[r]] = 1;
            }
        }
        for (int m = 0; m < NODES; m++) {
            for (int a = 0; a < NODES; a++) {
                for (int b = 0; b < NODES; b++) {
                    length[a][b] = Math.min(length[a][b], length[a][m] + length[m][b]);
                }
            }
        }
        return length;
    }

    private void circles(int[][] length) {
        int count = 0;
        for (int i = 0; i < NODES; i++) {
            int a = i;
            int circle = 0;
            for (int b = 0; b < NODES; b++) {
                circle |= length[a][b] < FAR && length[b][a] < FAR ? 1 << b : 0;
            }
            int want = circle;
            DUE.is(name + " circle(" + a + ")", want, () -> x.circle(a));
            count += Integer.numberOfTrailingZeros(circle) == a ? 1 : 0;
        }
        DUE.is(name + " circles()", count, x::circles);
    }

    private void way(int[][] length, int a, int b) {
        int want = length[a][b] < FAR ? length[a][b] : -1;
        DUE.is(name + " length(" + a + ", " + b + ")", want, () -> x.length(a, b));
        int at = a;
        for (int i = 0; i < want; i++) {
            int k = i;
            int least = 0;
            while (from[least] != at || length[to[least]][b] != want - k - 1) {
                least++;
            }
            int due = least;
            DUE.is(name + " step(" + a + ", " + b + ", " + k + ")", due, () -> x.step(a, b, k));
            at = to[least];
        }
    }

    private void passed(int[][] length, int a, int b) {
        int want = 0;
        for (int node = 0; node < NODES && length[a][b] < FAR; node++) {
            want |= node != a && node != b && lengths(node)[a][b] >= FAR ? 1 << node : 0;
        }
        int due = want;
        DUE.is(name + " passed(" + a + ", " + b + ")", due, () -> x.passed(a, b));
    }

    private void cut(int a, int b) {
        int[][] room = new int[NODES][NODES];
        for (int r = 0; r < RULES; r++) {
            room[from[r]][to[r]] += cost[r];
        }
        int flow = 0;
        while (pushOne(room, a, b, new boolean[NODES])) {
            flow++;
        }
        int due = flow;
        boolean[] seen = new boolean[NODES];
        pushOne(room, a, b, seen);
        int left = 0;
        for (int node = 0; node < NODES; node++) {
            left |= seen[node] ? 1 << node : 0;
        }
        int wantLeft = left;
        DUE.is(name + " cut(" + a + ", " + b + ")", due, () -> x.cut(a, b));
        DUE.is(name + " left(" + a + ", " + b + ")", wantLeft, () -> x.left(a, b));
        cutRules(a, b, seen);
    }

    private static boolean pushOne(int[][] room, int at, int end, boolean[] seen) {
        seen[at] = true;
        if (at == end) {
            return true;
        }
        for (int next = 0; next < NODES; next++) {
            if (!seen[next] && room[at][next] > 0 && pushOne(room, next, end, seen)) {
                room[at][next]--;
                room[next][at]++;
                return true;
            }
        }
        return false;
    }

    private void cutRules(int a, int b, boolean[] near) {
        int count = 0;
        for (int r = 0; r < RULES; r++) {
            if (near[from[r]] && !near[to[r]]) {
                int k = count;
                int due = r;
                DUE.is(name + " cutRule(" + a + ", " + b + ", " + k + ")", due, () -> x.cutRule(a, b, k));
                count++;
            }
        }
        int behind = count;
        DUE.is(name + " cutRule behind the last one", -1, () -> x.cutRule(a, b, behind));
        for (int k = 0; k < behind; k++) {
            x.turn(x.cutRule(a, b, 0), false);
        }
        DUE.is(name + " length without the cut", -1, () -> x.length(a, b));
        for (int r = 0; r < RULES; r++) {
            if (near[from[r]] && !near[to[r]]) {
                int rule = r;
                DUE.is(name + " was the rule of the cut on", false, () -> x.turn(rule, true));
            }
        }
    }
}
