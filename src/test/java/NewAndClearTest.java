/** Promise 1, a new object, and promise 2, clear. */
public final class NewAndClearTest {
    public static void main(String[] args) {
        Due due = new Due();
        due.is("NONE", -1, () -> FlowGuard.NONE);
        noRules(due, "new", new FlowGuard());

        FlowGuard twice = new FlowGuard();
        twice.clear();
        twice.clear();
        noRules(due, "cleared when new", twice);

        FlowGuard cleared = Look.sample();
        cleared.clear();
        noRules(due, "cleared", cleared);

        due.is("a look at a new and a cleared object", Look.at(new FlowGuard()), () -> {
            FlowGuard x = Look.sample();
            x.clear();
            return Look.at(x);
        });
        numbersBeginAnew(due);
        clearedWhenFull(due);
        objectsAreApart(due);
        due.end();
    }

    private static void noRules(Due due, String what, FlowGuard x) {
        due.is(what + ": circles()", 28, x::circles);
        for (int node = 0; node < 28; node++) {
            int at = node;
            int other = 27 - node;
            due.is(what + ": length with itself", 0, () -> x.length(at, at));
            due.is(what + ": length", -1, () -> x.length(at, other));
            due.is(what + ": passed", 0, () -> x.passed(at, other));
            due.is(what + ": circle", 1 << at, () -> x.circle(at));
            due.is(what + ": cut", 0, () -> x.cut(at, other));
            due.is(what + ": cutRule", -1, () -> x.cutRule(at, other, 0));
            due.is(what + ": left", 1 << at, () -> x.left(at, other));
            due.throwsExactly(what + ": step", IndexOutOfBoundsException.class, () -> x.step(at, other, 0));
        }
        due.throwsExactly(what + ": turn(0)", IndexOutOfBoundsException.class, () -> x.turn(0, true));
    }

    private static void numbersBeginAnew(Due due) {
        FlowGuard x = Look.sample();
        x.turn(0, false);
        x.turn(1, false);
        x.clear();
        due.is("first rule after clear", 0, () -> x.rule(9, 8, 4));
        due.throwsExactly("turn(1) after it", IndexOutOfBoundsException.class, () -> x.turn(1, true));
        due.is("length by it: a rule that was off before clear is on", 1, () -> x.length(9, 8));
        due.is("length by a rule that went", -1, () -> x.length(0, 1));
        due.is("second rule after clear", 1, () -> x.rule(8, 7, 1));
        due.is("was it on", true, () -> x.turn(1, true));
        due.is("cut has the new costs", 1, () -> x.cut(9, 7));
    }

    private static void clearedWhenFull(Due due) {
        FlowGuard x = new FlowGuard();
        for (int i = 0; i < 90; i++) {
            x.rule(0, 27, 9);
        }
        x.clear();
        for (int i = 0; i < 90; i++) {
            int want = i;
            due.is("rule after clear of 90", want, () -> x.rule(27, 0, 1));
        }
        due.is("cut of the new ones", 90, () -> x.cut(27, 0));
        due.is("cut of the old ones", 0, () -> x.cut(0, 27));
    }

    private static void objectsAreApart(Due due) {
        FlowGuard x = new FlowGuard();
        FlowGuard y = new FlowGuard();
        x.rule(0, 1, 1);
        due.is("another object's way", -1, () -> y.length(0, 1));
        due.is("another object's first rule", 0, () -> y.rule(1, 0, 1));
        y.clear();
        due.is("another object's clear", 1, () -> x.length(0, 1));
    }
}
