/** Promise 8, circle, and promise 9, circles. */
public final class CircleTest {
    public static void main(String[] args) {
        Due due = new Due();
        due.part(CircleTest::twoCircles);
        due.part(CircleTest::allNodes);
        due.part(CircleTest::pairs);
        due.part(CircleTest::waysWithoutCircles);
        due.part(CircleTest::nodeByItself);
        due.part(CircleTest::allNodesInOne);
        due.part(CircleTest::circleOfNoSuchNode);
        due.part(CircleTest::byItselfIsOne);
        due.part(CircleTest::oneCircle);
        due.end();
    }

    private static void twoCircles(Due due) {
        FlowGuard x = new FlowGuard();
        x.rule(0, 1, 1);
        x.rule(1, 27, 1);
        x.rule(27, 0, 1);
        x.rule(5, 6, 1);
        x.rule(6, 5, 1);
        x.rule(1, 5, 1);
        int first = 1 | 1 << 1 | 1 << 27;
        int second = 1 << 5 | 1 << 6;
        for (int node : new int[] {0, 1, 27}) {
            due.is("circle(" + node + ")", first, () -> x.circle(node));
        }
        for (int node : new int[] {5, 6}) {
            due.is("circle(" + node + ")", second, () -> x.circle(node));
        }
        due.is("circle(7), a node by itself", 1 << 7, () -> x.circle(7));
        due.is("circles()", 25, x::circles);
        x.rule(6, 27, 1);
        due.is("both are one circle: circle(5)", first | second, () -> x.circle(5));
        due.is("both are one circle: circles()", 24, x::circles);
        x.turn(5, false);
        due.is("they are two again: circle(5)", second, () -> x.circle(5));
        due.is("they are two again: circles()", 25, x::circles);
        x.turn(3, false);
        due.is("one is none: circle(6)", 1 << 6, () -> x.circle(6));
        due.is("one is none: circles()", 26, x::circles);
    }

    private static void allNodes(Due due) {
        for (int turn : new int[] {1, 27, 5}) {
            FlowGuard x = new FlowGuard();
            for (int node = 0; node < 28; node++) {
                x.rule(node, (node + turn) % 28, 1);
            }
            due.is("one circle: circles()", 1, x::circles);
            due.is("one circle: circle(0)", (1 << 28) - 1, () -> x.circle(0));
            due.is("one circle: circle(27)", (1 << 28) - 1, () -> x.circle(27));
            x.turn(13, false);
            due.is("a row: circles()", 28, x::circles);
            due.is("a row: circle(13)", 1 << 13, () -> x.circle(13));
        }
    }

    private static void pairs(Due due) {
        FlowGuard x = new FlowGuard();
        for (int node = 0; node < 14; node++) {
            x.rule(node, 27 - node, 1);
            x.rule(27 - node, node, 1);
        }
        due.is("pairs: circles()", 14, x::circles);
        for (int i = 0; i < 28; i++) {
            int node = i;
            due.is("pairs: circle(" + node + ")", 1 << node | 1 << 27 - node, () -> x.circle(node));
        }
    }

    private static void waysWithoutCircles(Due due) {
        FlowGuard x = new FlowGuard();
        x.rule(0, 1, 1);
        x.rule(0, 2, 1);
        x.rule(1, 3, 1);
        x.rule(2, 3, 1);
        due.is("two ways are no circle: circle(0)", 1, () -> x.circle(0));
        due.is("two ways are no circle: circle(3)", 1 << 3, () -> x.circle(3));
        due.is("two ways are no circle: circles()", 28, x::circles);
    }
    private static void nodeByItself(Due due) {
        due.sentence("Promise 8, The circle of a node, a bit each: by itself");
        FlowGuard row = new FlowGuard();
        for (int node = 0; node < 27; node++) {
            row.rule(node, node + 1, 1);
        }
        for (int i = 0; i < 28; i++) {
            int node = i;
            due.is("without rules, " + node, 1 << node, () -> new FlowGuard().circle(node));
            due.is("in a row, " + node, 1 << node, () -> row.circle(node));
        }
    }

    private static void allNodesInOne(Due due) {
        due.sentence("Promise 8, The circle of a node, a bit each: all 28 nodes in one");
        FlowGuard x = circleOfAll();
        for (int i = 0; i < 28; i++) {
            int node = i;
            due.is("circle(" + node + ")", 268435455, () -> x.circle(node));
        }
        x.turn(27, false);
        x.rule(26, 0, 1);
        due.is("all but the last one", 134217727, () -> x.circle(0));
        due.is("the last one", 1 << 27, () -> x.circle(27));
    }

    private static void circleOfNoSuchNode(Due due) {
        due.sentence("Promise 8, IllegalArgumentException if there is no such node.");
        for (FlowGuard x : new FlowGuard[] {new FlowGuard(), circleOfAll()}) {
            for (int no : new int[] {-1, 28, 29, 32, Integer.MIN_VALUE, Integer.MAX_VALUE}) {
                due.throwsExactly("circle(" + no + ")", IllegalArgumentException.class, () -> x.circle(no));
            }
        }
    }

    private static void byItselfIsOne(Due due) {
        due.sentence("Promise 9, a node by itself is one");
        due.is("without rules", 28, () -> new FlowGuard().circles());
        FlowGuard x = new FlowGuard();
        x.rule(0, 27, 1);
        due.is("with one rule", 28, x::circles);
        x.rule(27, 0, 1);
        due.is("two in a circle", 27, x::circles);
        x.turn(1, false);
        due.is("and not again", 28, x::circles);
    }

    private static void oneCircle(Due due) {
        due.sentence("Promise 9, How many circles there are: all nodes in one");
        FlowGuard x = circleOfAll();
        due.is("all nodes in one", 1, x::circles);
        x.rule(26, 0, 1);
        due.is("by another rule too", 1, x::circles);
        x.turn(27, false);
        due.is("without the last one", 2, x::circles);
        x.turn(28, false);
        due.is("in a row", 28, x::circles);
    }

    private static FlowGuard circleOfAll() {
        FlowGuard x = new FlowGuard();
        for (int node = 0; node < 28; node++) {
            x.rule(node, (node + 1) % 28, 1);
        }
        return x;
    }
}
