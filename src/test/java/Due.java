/** Counts and prints every call whose answer is not the one that is due. */
final class Due {
    interface Call {
        Object answer();
    }

    private int wrong = 0;
    private int asked = 0;

    /** The call answers this. */
    void is(String name, Object want, Call call) {
        asked++;
        Object got = answerOf(call);
        if (!want.equals(got)) {
            wrong++;
            System.out.println(name + " answered " + got + ", due is " + want);
        }
    }

    /** The call throws this very class: what the machine throws is often a class below it. */
    void throwsExactly(String name, Class<? extends RuntimeException> want, Call call) {
        is(name, "throws." + want.getName(), call);
    }

    static Object answerOf(Call call) {
        try {
            return call.answer();
        } catch (Throwable thrown) {
            return "throws." + thrown.getClass().getName();
        }
    }

    void end() {
        System.out.println(wrong == 0 ? asked + " answers, all as due" : wrong + " of " + asked + " answers are not as due");
        if (wrong != 0) {
            System.exit(1);
        }
    }
}
