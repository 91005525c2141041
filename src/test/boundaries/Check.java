import java.util.List;

/** Holds answers against those that are due, and refused calls against what they may not change. */
final class Check {
    static final Class<?> INDEX = IndexOutOfBoundsException.class;
    static final Class<?> ARGUMENT = IllegalArgumentException.class;
    static final Class<?> STATE = IllegalStateException.class;

    interface Setting {
        void on(Baker x);
    }

    interface Call {
        Object on(Baker x);
    }

    interface NumberCall {
        Object on(Baker x, int number);
    }

    private static Document document;
    private static int section;
    private static String words;
    private static int wrong = 0;

    private Check() {
    }

    static void open(Document opened) {
        document = opened;
    }

    /** Begins the test of a sentence of the document, which is quoted in part or whole. */
    static void says(int promise, String quoted) {
        section = promise;
        words = quoted;
        if (!document.quote(promise, quoted)) {
            fail("the document doesn't say so");
        }
    }

    private static void fail(String what) {
        wrong++;
        System.out.println((section == Document.TERMS ? "terms" : "promise " + section) + ", \"" + words + "\", line "
            + lineOfTest() + ": " + what);
    }

    private static int lineOfTest() {
        for (StackTraceElement frame : new Throwable().getStackTrace()) {
            if (frame.getClassName().endsWith("Boundaries")) {
                return frame.getLineNumber();
            }
        }
        return 0;
    }

    /** How many answers were wrong, with the sentences that no test quotes. */
    static int countWrong() {
        List<String> left = document.notQuoted();
        for (String sentence : left) {
            System.out.println("no test quotes: " + sentence);
        }
        return wrong + left.size();
    }

    static Baker made(Setting setting) {
        Baker x = new Baker();
        setting.on(x);
        return x;
    }

    /** What the call answers, or the class of what it throws: that of the document, not one below it. */
    static Object answerOf(Baker x, Call call) {
        try {
            return call.on(x);
        } catch (RuntimeException e) {
            return e.getClass();
        }
    }

    static void due(Object want, Object got) {
        if (!want.equals(got)) {
            fail("answered " + got + ", due is " + want);
        }
    }

    /** The call throws that, and the object then answers all the probes as one that was never asked. */
    static void refused(Class<?> want, Setting setting, Call call) {
        due(want, answerOf(made(setting), call));
        for (Probes probe : Probes.values()) {
            Baker untouched = made(setting);
            Baker touched = made(setting);
            answerOf(touched, call);
            String wanted = probe.answersOf(untouched);
            String got = probe.answersOf(touched);
            if (!wanted.equals(got)) {
                fail("the refused call changed what the probe " + probe + " shows:\n  " + wanted + "\n  " + got);
            }
        }
    }

    /** An argument is refused ahead of the least and behind the greatest number that is allowed, and at the far ends. */
    static void refusedOutside(int least, int greatest, Class<?> want, Setting setting, NumberCall call) {
        int[] outside = {least - 1, greatest + 1, Integer.MIN_VALUE, Integer.MAX_VALUE};
        for (int number : outside) {
            refused(want, setting, x -> call.on(x, number));
        }
    }

    /** An argument is taken at the least and at the greatest number that is allowed, each on a new object. */
    static void takenAtBothEnds(int least, int greatest, Setting setting, NumberCall call) {
        int[] ends = {least, greatest};
        for (int number : ends) {
            Object answer = answerOf(made(setting), x -> call.on(x, number));
            if (answer instanceof Class) {
                fail("answered " + answer + " for " + number);
            }
        }
    }
}
