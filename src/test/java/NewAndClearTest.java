/** Promise 1, a new object, and promise 2, clear. */
public final class NewAndClearTest {
    public static void main(String[] args) {
        Due due = new Due();
        due.part(NewAndClearTest::noRules);
        due.part(NewAndClearTest::objectsAreApart);
        due.part(NewAndClearTest::allRulesGo);
        due.part(NewAndClearTest::clearedWithoutRules);
        due.part(NewAndClearTest::clearedMeansNew);
        due.part(NewAndClearTest::numbersBeginAnew);
        due.part(NewAndClearTest::onAtFirstAnew);
        due.part(NewAndClearTest::ninetyAnew);
        due.end();
    }

    private static void noRules(Due due) {
        due.sentence("Promise 1, No rules.");
        Ask.withoutRules(due, "new", new FlowGuard());
    }

    private static void objectsAreApart(Due due) {
        due.sentence("Promise 1, No rules, though another object has some");
        FlowGuard x = Look.sample();
        FlowGuard y = new FlowGuard();
        Ask.withoutRules(due, "beside another", y);
        y.clear();
        due.is("another object's clear", 4, () -> x.length(0, 27));
    }

    private static void allRulesGo(Due due) {
        due.sentence("Promise 2, All rules go.");
        FlowGuard some = Look.sample();
        some.clear();
        Ask.withoutRules(due, "cleared", some);
        FlowGuard full = Ask.ninety(0, 27, 9);
        full.clear();
        Ask.withoutRules(due, "cleared when full", full);
    }

    private static void clearedWithoutRules(Due due) {
        due.sentence("Promise 2, All rules go, where there are none");
        FlowGuard x = new FlowGuard();
        x.clear();
        Ask.withoutRules(due, "cleared when new", x);
        x.clear();
        x.clear();
        due.is("first rule of an object cleared twice", 0, () -> x.rule(3, 4, 5));
    }

    private static void clearedMeansNew(Due due) {
        due.sentence("Promise 2, All rules go: a cleared object is as a new one");
        due.is("a look at it", Look.at(new FlowGuard()), () -> {
            FlowGuard x = Look.sample();
            x.clear();
            return Look.at(x);
        });
    }

    private static void numbersBeginAnew(Due due) {
        due.sentence("Promise 2, All rules go: numbers begin at 0 again");
        FlowGuard x = Look.sample();
        x.clear();
        due.is("first rule after clear", 0, () -> x.rule(9, 8, 4));
        due.throwsExactly("turn(1) after it", IndexOutOfBoundsException.class, () -> x.turn(1, true));
        due.is("second rule after clear", 1, () -> x.rule(8, 7, 1));
        Ask.way(due, x, 9, 7, 0, 1);
        Ask.cut(due, x, 9, 7, 1, 1 << 9 | 1 << 8, 1);
        Ask.noWay(due, x, 0, 1);
        due.throwsExactly("turn of a rule that went", IndexOutOfBoundsException.class, () -> x.turn(2, true));
    }

    private static void onAtFirstAnew(Due due) {
        due.sentence("Promise 2, All rules go: a rule made after it is on at first");
        FlowGuard x = Ask.ninety(0, 27, 9);
        for (int rule = 0; rule < 90; rule++) {
            x.turn(rule, false);
        }
        x.clear();
        for (int i = 0; i < 90; i++) {
            int rule = i;
            x.rule(27, 0, 1);
            due.is("is " + rule + " on", true, () -> x.turn(rule, true));
        }
        due.is("cut of the new ones", 90, () -> x.cut(27, 0));
    }

    private static void ninetyAnew(Due due) {
        due.sentence("Promise 2, All rules go: 90 can be made again");
        FlowGuard x = Ask.ninety(0, 27, 9);
        x.clear();
        for (int i = 0; i < 90; i++) {
            int want = i;
            due.is("rule after clear of 90", want, () -> x.rule(27, 0, 1));
        }
        due.throwsExactly("one more", UnsupportedOperationException.class, () -> x.rule(27, 0, 1));
        due.is("cut of the new ones", 90, () -> x.cut(27, 0));
        due.is("cut of the old ones", 0, () -> x.cut(0, 27));
    }
}
