/** Promise 10, cut, promise 11, cutRule, and promise 12, left. */
public final class CutTest {
    public static void main(String[] args) {
        Due due = new Due();
        due.part(CutTest::severalOfOneCost);
        due.part(CutTest::leastCostComesFirst);
        due.part(CutTest::noWay);
        due.part(CutTest::sideNodes);
        due.part(CutTest::flowGoesBack);
        due.part(CutTest::rulesBackAreNotCut);
        due.part(CutTest::allRules);
        due.end();
    }

    private static void severalOfOneCost(Due due) {
        FlowGuard x = new FlowGuard();
        x.rule(2, 27, 4);
        x.rule(1, 2, 4);
        x.rule(0, 1, 4);
        // Each rule alone is a cut of cost 4: the one that is nearest leaves fewest nodes.
        Ask.cut(due, x, 0, 27, 4, 1, 2);
        Ask.cut(due, x, 1, 27, 4, 1 << 1, 1);
        x.rule(0, 1, 1);
        Ask.cut(due, x, 0, 27, 4, 1 | 1 << 1, 1);
        x.rule(1, 2, 1);
        Ask.cut(due, x, 0, 27, 4, 1 | 1 << 1 | 1 << 2, 0);
        x.rule(2, 27, 1);
        Ask.cut(due, x, 0, 27, 5, 1, 2, 3);
        x.turn(3, false);
        Ask.cut(due, x, 0, 27, 4, 1, 2);
    }

    private static void leastCostComesFirst(Due due) {
        FlowGuard x = new FlowGuard();
        x.rule(0, 1, 9);
        x.rule(1, 2, 3);
        x.rule(1, 3, 3);
        x.rule(1, 4, 2);
        x.rule(2, 5, 9);
        x.rule(3, 5, 9);
        x.rule(4, 5, 9);
        // Three rules of cost 8 are less than the one of cost 9.
        Ask.cut(due, x, 0, 5, 8, 1 | 1 << 1, 1, 2, 3);
        x.rule(1, 5, 1);
        Ask.cut(due, x, 0, 5, 9, 1, 0);
        x.rule(1, 5, 1);
        Ask.cut(due, x, 0, 5, 9, 1, 0);
    }

    private static void noWay(Due due) {
        FlowGuard x = new FlowGuard();
        x.rule(0, 1, 5);
        x.rule(1, 2, 5);
        x.rule(27, 2, 5);
        Ask.cut(due, x, 0, 27, 0, 1 | 1 << 1 | 1 << 2);
        Ask.cut(due, x, 2, 0, 0, 1 << 2);
        Ask.cut(due, x, 27, 0, 0, 1 << 2 | 1 << 27);
        x.turn(1, false);
        Ask.cut(due, x, 0, 2, 0, 1 | 1 << 1);
    }

    private static void sideNodes(Due due) {
        FlowGuard x = new FlowGuard();
        x.rule(0, 1, 2);
        x.rule(0, 8, 1);
        x.rule(8, 9, 1);
        x.rule(1, 27, 3);
        x.rule(1, 7, 1);
        x.rule(27, 6, 1);
        // 8 and 9 are left though no way to 27 goes there; 7 is behind the cut.
        Ask.cut(due, x, 0, 27, 2, 1 | 1 << 8 | 1 << 9, 0);
        x.rule(9, 1, 2);
        Ask.cut(due, x, 0, 27, 3, 1, 0, 1);
        x.rule(0, 9, 1);
        Ask.cut(due, x, 0, 27, 3, 1 | 1 << 1 | 1 << 7 | 1 << 8 | 1 << 9, 3);
    }

    private static void flowGoesBack(Due due) {
        // The first way that is found goes over 1 to 2; the most flow must take it back.
        FlowGuard x = new FlowGuard();
        x.rule(1, 2, 9);
        x.rule(0, 1, 5);
        x.rule(2, 27, 5);
        x.rule(0, 2, 5);
        x.rule(1, 27, 5);
        Ask.cut(due, x, 0, 27, 10, 1, 1, 3);
        x.rule(0, 1, 9);
        Ask.cut(due, x, 0, 27, 10, 1 | 1 << 1 | 1 << 2, 2, 4);
    }

    private static void rulesBackAreNotCut(Due due) {
        FlowGuard x = new FlowGuard();
        x.rule(27, 0, 9);
        x.rule(0, 27, 1);
        x.rule(1, 0, 9);
        x.rule(27, 1, 9);
        Ask.cut(due, x, 0, 27, 1, 1, 1);
        Ask.cut(due, x, 27, 0, 18, 1 << 27, 0, 3);
        due.is("a question changes no rule: length", 1, () -> x.length(0, 27));
        due.is("a question changes no rule: turn", true, () -> x.turn(1, true));
        Ask.cut(due, x, 0, 27, 1, 1, 1);
    }

    private static void allRules(Due due) {
        FlowGuard x = new FlowGuard();
        int[] all = new int[90];
        for (int i = 0; i < 90; i++) {
            all[i] = i;
            x.rule(27, 0, 9);
        }
        Ask.cut(due, x, 27, 0, 810, 1 << 27, all);
        x.turn(0, false);
        due.is("cut of 89", 801, () -> x.cut(27, 0));
        due.is("first of 89", 1, () -> x.cutRule(27, 0, 0));
        due.is("last of 89", 89, () -> x.cutRule(27, 0, 88));
        due.is("behind 89", -1, () -> x.cutRule(27, 0, 89));
    }
}
