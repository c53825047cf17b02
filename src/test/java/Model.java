import java.util.ArrayList;
import java.util.List;

/**
 * The terms of the document as they are written, by trying everything: all ways, all sets of
 * rules. It shares no thought with the class, and is for few rules only.
 */
final class Model {
    record Rule(int from, int to, int cost) {
    }

    record Cut(int cost, int left, List<Integer> rules) {
    }

    final List<Rule> rules = new ArrayList<>();
    final List<Boolean> on = new ArrayList<>();

    /** All ways that come to no node twice: each other way has one of these within its rules. */
    List<List<Integer>> ways(int from, int to) {
        List<List<Integer>> found = new ArrayList<>();
        follow(from, to, 1L << from, new ArrayList<>(), found);
        return found;
    }

    private void follow(int at, int to, long seen, List<Integer> way, List<List<Integer>> found) {
        if (at == to) {
            found.add(new ArrayList<>(way));
            return;
        }
        for (int r = 0; r < rules.size(); r++) {
            Rule rule = rules.get(r);
            if (on.get(r) && rule.from() == at && (seen >> rule.to() & 1) == 0) {
                way.add(r);
                follow(rule.to(), to, seen | 1L << rule.to(), way, found);
                way.remove(way.size() - 1);
            }
        }
    }

    List<Integer> leastWay(int from, int to) {
        List<Integer> least = null;
        for (List<Integer> way : ways(from, to)) {
            if (least == null || isLess(way, least)) {
                least = way;
            }
        }
        return least;
    }

    private static boolean isLess(List<Integer> one, List<Integer> other) {
        if (one.size() != other.size()) {
            return one.size() < other.size();
        }
        for (int k = 0; k < one.size(); k++) {
            if (!one.get(k).equals(other.get(k))) {
                return one.get(k) < other.get(k);
            }
        }
        return false;
    }

    int passed(int from, int to) {
        List<List<Integer>> ways = ways(from, to);
        if (ways.isEmpty()) {
            return 0;
        }
        int passed = -1;
        for (List<Integer> way : ways) {
            int endsOnTheWay = 0;
            for (int k = 0; k + 1 < way.size(); k++) {
                endsOnTheWay |= 1 << rules.get(way.get(k)).to();
            }
            passed &= endsOnTheWay;
        }
        return passed;
    }

    int circle(int node) {
        int circle = 0;
        for (int other = 0; other < 28; other++) {
            if (!ways(node, other).isEmpty() && !ways(other, node).isEmpty()) {
                circle |= 1 << other;
            }
        }
        return circle;
    }

    int circles() {
        return (int) java.util.stream.IntStream.range(0, 28).map(this::circle).distinct().count();
    }

    /** Tries every set of rules that are on. */
    Cut leastCut(int from, int to) {
        Cut least = null;
        int onRules = setOfOnRules();
        for (int set = 0; set < 1 << rules.size(); set++) {
            if ((set & ~onRules) == 0) {
                int left = reachWithout(set, from);
                int cost = costOf(set);
                if ((left >> to & 1) == 0 && (least == null || isLess(cost, left, least))) {
                    least = new Cut(cost, left, numbersOf(set));
                }
            }
        }
        return least;
    }

    private static boolean isLess(int cost, int left, Cut other) {
        if (cost != other.cost()) {
            return cost < other.cost();
        }
        return Integer.bitCount(left) < Integer.bitCount(other.left());
    }

    private int setOfOnRules() {
        int set = 0;
        for (int r = 0; r < rules.size(); r++) {
            set |= on.get(r) ? 1 << r : 0;
        }
        return set;
    }

    private int costOf(int set) {
        return numbersOf(set).stream().mapToInt(r -> rules.get(r).cost()).sum();
    }

    private List<Integer> numbersOf(int set) {
        List<Integer> numbers = new ArrayList<>();
        for (int r = 0; r < rules.size(); r++) {
            if ((set >> r & 1) != 0) {
                numbers.add(r);
            }
        }
        return numbers;
    }

    private int reachWithout(int set, int from) {
        int reached = 1 << from;
        for (int again = 0; again < rules.size(); again++) {
            for (int r = 0; r < rules.size(); r++) {
                Rule rule = rules.get(r);
                if (on.get(r) && (set >> r & 1) == 0 && (reached >> rule.from() & 1) != 0) {
                    reached |= 1 << rule.to();
                }
            }
        }
        return reached;
    }
}
