/** Counts the answers that are not as due, and tells of each. */
final class Check {
    interface Call {
        Object answer();
    }

    interface Deed {
        void happens();
    }

    static final Class<? extends Exception> INDEX = IndexOutOfBoundsException.class;
    static final Class<? extends Exception> ARGUMENT = IllegalArgumentException.class;
    static final Class<? extends Exception> STATE = IllegalStateException.class;

    private static int asked = 0;
    private static int wrong = 0;
    private static String about = "";

    private Check() {
    }

    static void same(String what, Object got, Object want) {
        asked++;
        if (!want.equals(got)) {
            wrong++;
            if (wrong <= 50) {
                System.out.println("  " + about + what + ": answered " + got + ", due is " + want);
            }
        }
    }

    static int asked() {
        return asked;
    }

    /** What the next checks are about; told with each answer that is not as due. */
    static void isAbout(String text) {
        about = text;
    }

    static void refused(String what, Class<? extends Exception> due, Call call) {
        Object got;
        try {
            got = call.answer();
        } catch (RuntimeException e) {
            got = isThrownByProgram(e) ? e.getClass() : e + ", thrown by the machine";
        }
        same(what, got, due);
    }

    /** Whether the program threw it itself, not the library or the machine within it. */
    static boolean isThrownByProgram(Throwable e) {
        Class<?> kind = e.getClass();
        StackTraceElement[] trace = e.getStackTrace();
        return (kind == INDEX || kind == ARGUMENT || kind == STATE)
            && (trace.length == 0 || trace[0].getClassName().startsWith("Ironbark"));
    }

    static void refusedDeed(String what, Class<? extends Exception> due, Deed deed) {
        refused(what, due, () -> {
            deed.happens();
            return "nothing thrown";
        });
    }

    /** Ends the test, with exit code 1 if an answer was wrong. */
    static void end() {
        System.out.println("  " + asked + " answers asked, " + wrong + " not as due");
        if (wrong != 0 || asked == 0) {
            System.exit(1);
        }
    }
}
