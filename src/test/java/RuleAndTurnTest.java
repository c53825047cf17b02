/** Promise 3, rule, and promise 4, turn. */
public final class RuleAndTurnTest {
    public static void main(String[] args) {
        Due due = new Due();
        numbers(due);
        costs(due);
        ninety(due);
        sameRuleTwice(due);
        turning(due);
        turningTheLast(due);
        due.end();
    }

    private static void numbers(Due due) {
        FlowGuard x = new FlowGuard();
        due.is("rule(0, 27, 1)", 0, () -> x.rule(0, 27, 1));
        due.is("rule(27, 0, 9)", 1, () -> x.rule(27, 0, 9));
        due.throwsExactly("rule(27, 27, 9)", IllegalArgumentException.class, () -> x.rule(27, 27, 9));
        due.is("the number after one that threw", 2, () -> x.rule(26, 27, 5));
        due.is("way of rule 0", 0, () -> x.step(0, 27, 0));
        due.is("way of rule 1", 1, () -> x.step(27, 0, 0));
        due.is("a rule goes one way", -1, () -> x.length(27, 26));
    }

    private static void costs(Due due) {
        for (int i = 1; i <= 9; i++) {
            int cost = i;
            FlowGuard x = new FlowGuard();
            due.is("rule of cost " + cost, 0, () -> x.rule(3, 4, cost));
            due.is("cut of cost " + cost, cost, () -> x.cut(3, 4));
        }
    }

    private static void ninety(Due due) {
        FlowGuard x = new FlowGuard();
        for (int i = 0; i < 90; i++) {
            int number = i;
            due.is("rule " + number, number, () -> x.rule(number % 28, (number + 1) % 28, 1 + number % 9));
        }
        due.throwsExactly("rule 90", UnsupportedOperationException.class, () -> x.rule(0, 1, 1));
        for (int i = 0; i < 90; i++) {
            int number = i;
            due.is("is rule " + number + " on", true, () -> x.turn(number, true));
        }
        for (int i = 0; i < 89; i++) {
            x.turn(i, false);
        }
        due.is("the 90th rule alone, 5 to 6", 1, () -> x.length(89 % 28, 90 % 28));
        due.is("its cost", 1 + 89 % 9, () -> x.cut(89 % 28, 90 % 28));
        due.is("its number", 89, () -> x.step(89 % 28, 90 % 28, 0));
    }

    private static void sameRuleTwice(Due due) {
        FlowGuard x = new FlowGuard();
        due.is("a rule", 0, () -> x.rule(2, 3, 4));
        due.is("the same rule again is another one", 1, () -> x.rule(2, 3, 4));
        due.is("cut of both", 8, () -> x.cut(2, 3));
        x.turn(0, false);
        due.is("step by the other one", 1, () -> x.step(2, 3, 0));
    }

    private static void turning(Due due) {
        FlowGuard x = new FlowGuard();
        x.rule(0, 1, 2);
        x.rule(1, 2, 3);
        due.is("on when it is on", true, () -> x.turn(0, true));
        due.is("off when it is on", false, () -> x.turn(0, false));
        due.is("off when it is off", true, () -> x.turn(0, false));
        due.is("no way by a rule that is off", -1, () -> x.length(0, 2));
        due.is("no cut of it", 0, () -> x.cut(0, 2));
        due.is("no node passed by it", 0, () -> x.passed(0, 2));
        due.is("the other rule is still on", true, () -> x.turn(1, true));
        due.is("on when it is off", false, () -> x.turn(0, true));
        due.is("on when it is on again", true, () -> x.turn(0, true));
        due.is("a way again", 2, () -> x.length(0, 2));
        due.is("a cut again", 2, () -> x.cut(0, 2));
    }

    private static void turningTheLast(Due due) {
        FlowGuard x = new FlowGuard();
        for (int i = 0; i < 90; i++) {
            x.rule(0, 27, 1);
        }
        due.is("turn(89, false)", false, () -> x.turn(89, false));
        due.is("cut without it", 89, () -> x.cut(0, 27));
        due.is("turn(89, true)", false, () -> x.turn(89, true));
        due.is("cut with it", 90, () -> x.cut(0, 27));
        due.throwsExactly("turn(90, true)", IndexOutOfBoundsException.class, () -> x.turn(90, true));
        due.throwsExactly("turn(-1, true)", IndexOutOfBoundsException.class, () -> x.turn(-1, true));
    }
}
