import java.util.ArrayList;
import java.util.List;

/**
 * The document's promises once more, for as many nodes and rules as there may be, each by another
 * thought than the class's: least ways by comparing whole ways, passed nodes by what all nodes before
 * one have passed, circles by the table of all ways, and cuts by the amounts of flows alone.
 */
final class WideModel {
    private record Rule(int from, int to, int cost) {
    }

    private static final int NODES = 28;
    private static final int ALL = (1 << NODES) - 1;
    // More than all costs together: a cut never goes through it.
    private static final int UNCUT = 10000;

    private final List<Rule> rules = new ArrayList<>();
    private final List<Boolean> on = new ArrayList<>();

    int count() {
        return rules.size();
    }

    void clear() {
        rules.clear();
        on.clear();
    }

    int rule(int from, int to, int cost) {
        needUnlike(from, to);
        need(cost >= 1 && cost <= 9);
        if (rules.size() == 90) {
            throw new UnsupportedOperationException();
        }
        rules.add(new Rule(from, to, cost));
        on.add(true);
        return rules.size() - 1;
    }

    boolean turn(int rule, boolean to) {
        needIndex(rule, rules.size());
        return on.set(rule, to) == to;
    }

    int length(int from, int to) {
        needNodes(from, to);
        List<Integer> way = leastWay(from, to);
        return way == null ? -1 : way.size();
    }

    int step(int from, int to, int k) {
        needNodes(from, to);
        List<Integer> way = leastWay(from, to);
        needIndex(k, way == null ? 0 : way.size());
        return way.get(k);
    }

    int passed(int from, int to) {
        needNodes(from, to);
        if (leastWay(from, to) == null) {
            return 0;
        }
        return passedBefore(from)[to] & ~(1 << from | 1 << to);
    }

    int circle(int node) {
        needNodes(node, node);
        boolean[][] way = tableOfWays();
        int circle = 0;
        for (int other = 0; other < NODES; other++) {
            circle |= way[node][other] && way[other][node] ? 1 << other : 0;
        }
        return circle;
    }

    int circles() {
        boolean[][] way = tableOfWays();
        int first = 0;
        for (int node = 0; node < NODES; node++) {
            boolean hasOneBefore = false;
            for (int before = 0; before < node; before++) {
                hasOneBefore |= way[node][before] && way[before][node];
            }
            first += hasOneBefore ? 0 : 1;
        }
        return first;
    }

    int cut(int from, int to) {
        needUnlike(from, to);
        return greatestFlow(from, to, to);
    }

    int cutRule(int from, int to, int k) {
        needUnlike(from, to);
        need(k >= 0);
        int left = left(from, to);
        List<Integer> cut = new ArrayList<>();
        for (int r : rulesOn()) {
            Rule rule = rules.get(r);
            if ((left >> rule.from() & 1) == 1 && (left >> rule.to() & 1) == 0) {
                cut.add(r);
            }
        }
        return k < cut.size() ? cut.get(k) : -1;
    }

    /**
     * A node is left by the cut that leaves fewest if each cut of the least cost leaves it: if to cut
     * it off as well costs more.
     */
    int left(int from, int to) {
        needUnlike(from, to);
        int least = greatestFlow(from, to, to);
        int left = 1 << from;
        for (int node = 0; node < NODES; node++) {
            boolean between = node != from && node != to;
            left |= between && greatestFlow(from, to, node) > least ? 1 << node : 0;
        }
        return left;
    }

    // ---- what a call must be given

    private static void need(boolean asItMustBe) {
        if (!asItMustBe) {
            throw new IllegalArgumentException();
        }
    }

    private static void needNodes(int from, int to) {
        need(from >= 0 && from <= 27 && to >= 0 && to <= 27);
    }

    private static void needUnlike(int from, int to) {
        needNodes(from, to);
        need(from != to);
    }

    private static void needIndex(int index, int behind) {
        if (index < 0 || index >= behind) {
            throw new IndexOutOfBoundsException();
        }
    }

    private List<Integer> rulesOn() {
        List<Integer> found = new ArrayList<>();
        for (int r = 0; r < rules.size(); r++) {
            if (on.get(r)) {
                found.add(r);
            }
        }
        return found;
    }

    // ---- ways

    /** Grows the least way to each node by a rule at a time, and keeps the lesser of two whole ways. */
    private List<Integer> leastWay(int from, int to) {
        List<List<Integer>> least = new ArrayList<>();
        for (int node = 0; node < NODES; node++) {
            least.add(node == from ? List.of() : null);
        }
        for (int length = 1; length < NODES; length++) {
            for (int r : rulesOn()) {
                List<Integer> before = least.get(rules.get(r).from());
                if (before != null && before.size() == length - 1) {
                    List<Integer> way = new ArrayList<>(before);
                    way.add(r);
                    least.set(rules.get(r).to(), lesser(least.get(rules.get(r).to()), way));
                }
            }
        }
        return least.get(to);
    }

    private static List<Integer> lesser(List<Integer> one, List<Integer> other) {
        if (one == null || one.size() > other.size()) {
            return other;
        }
        for (int k = 0; k < one.size() && one.size() == other.size(); k++) {
            if (!one.get(k).equals(other.get(k))) {
                return one.get(k) < other.get(k) ? one : other;
            }
        }
        return one;
    }

    private boolean[][] tableOfWays() {
        boolean[][] way = new boolean[NODES][NODES];
        for (int node = 0; node < NODES; node++) {
            way[node][node] = true;
        }
        for (int r : rulesOn()) {
            way[rules.get(r).from()][rules.get(r).to()] = true;
        }
        for (int m = 0; m < NODES; m++) {
            for (int a = 0; a < NODES; a++) {
                for (int b = 0; b < NODES; b++) {
                    way[a][b] |= way[a][m] && way[m][b];
                }
            }
        }
        return way;
    }

    /** The nodes on each way to a node: itself, and those on each way to all nodes before it. */
    private int[] passedBefore(int from) {
        boolean[] reached = tableOfWays()[from];
        int[] passed = new int[NODES];
        for (int node = 0; node < NODES; node++) {
            passed[node] = node == from ? 1 << from : ALL;
        }
        // Each round but the last one takes a node from a set.
        for (int round = 0; round < NODES * NODES; round++) {
            int[] next = passed.clone();
            for (int r : rulesOn()) {
                Rule rule = rules.get(r);
                if (reached[rule.from()] && rule.to() != from) {
                    next[rule.to()] &= passed[rule.from()] | 1 << rule.to();
                }
            }
            if (java.util.Arrays.equals(next, passed)) {
                break;
            }
            passed = next;
        }
        return passed;
    }

    // ---- flows

    /** The greatest flow to two nodes (or to one, if they are one), which is the cost of cutting both off. */
    private int greatestFlow(int from, int to, int alsoTo) {
        int[][] room = new int[NODES][NODES];
        for (int r : rulesOn()) {
            Rule rule = rules.get(r);
            room[rule.from()][rule.to()] += rule.cost();
        }
        if (alsoTo != to) {
            room[alsoTo][to] = UNCUT;
        }
        int flow = 0;
        int more = push(room, from, to, UNCUT, new boolean[NODES]);
        while (more > 0) {
            flow += more;
            more = push(room, from, to, UNCUT, new boolean[NODES]);
        }
        return flow;
    }

    private static int push(int[][] room, int at, int end, int most, boolean[] seen) {
        if (at == end) {
            return most;
        }
        seen[at] = true;
        for (int next = 0; next < NODES; next++) {
            if (!seen[next] && room[at][next] > 0) {
                int amount = push(room, next, end, Math.min(most, room[at][next]), seen);
                room[at][next] -= amount;
                room[next][at] += amount;
                if (amount > 0) {
                    return amount;
                }
            }
        }
        return 0;
    }
}
