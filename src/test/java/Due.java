/** Counts and prints every call whose answer is not the one that is due. */
final class Due {
    interface Call {
        Object answer();
    }

    interface Part {
        void ask(Due due);
    }

    private String sentence = "";
    private int sentences = 0;
    private int wrong = 0;
    private int asked = 0;

    /** What is asked from here on is due by this sentence of the document. */
    void sentence(String text) {
        sentence = text + ": ";
        sentences++;
    }

    /** Asks one part of a test: if it can't be asked to its end, that is wrong, and the next is asked. */
    void part(Part part) {
        sentence = "";
        try {
            part.ask(this);
        } catch (RuntimeException thrown) {
            wrong++;
            System.out.println(sentence + "ended with " + thrown + " at " + thrown.getStackTrace()[0]);
        }
    }

    /** The call answers this. */
    void is(String name, Object want, Call call) {
        asked++;
        Object got = answerOf(call);
        if (!want.equals(got)) {
            wrong++;
            System.out.println(sentence + name + " answered " + got + ", due is " + want);
        }
    }

    /** The call throws this very class: what the machine throws is often a class below it. */
    void throwsExactly(String name, Class<? extends RuntimeException> want, Call call) {
        is(name, "throws." + want.getName(), call);
    }

    static Object answerOf(Call call) {
        try {
            return call.answer();
        } catch (Throwable thrown) {
            return "throws." + thrown.getClass().getName();
        }
    }

    void end() {
        String of = asked + " answers" + (sentences == 0 ? "" : " to " + sentences + " sentences");
        System.out.println(wrong == 0 ? of + ", all as due" : wrong + " not as due of " + of);
        if (wrong != 0) {
            System.exit(1);
        }
    }
}
