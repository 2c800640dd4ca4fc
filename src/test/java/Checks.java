/** Counts and prints the answers that are not due, for one test program. */
final class Checks {
    /** One call of the class under test. */
    interface Call {
        Object answer();
    }

    private static final int MOST_PRINTED = 40;

    private int checked;
    private int wrong;
    private String part = "";

    void begin(String name) {
        part = name;
    }

    /** Compares texts, so that 7 and 7L are the same answer. */
    void same(String what, Object got, Object want) {
        checked++;
        if (!String.valueOf(got).equals(String.valueOf(want))) {
            fail(what + " answered " + got + ", due is " + want);
        }
    }

    void answers(String what, Object want, Call call) {
        same(what, outcome(call), want);
    }

    void refusesIndex(String what, Call call) {
        answers(what, "throws.IndexOutOfBoundsException", call);
    }

    void refusesArgument(String what, Call call) {
        answers(what, "throws.IllegalArgumentException", call);
    }

    void refusesState(String what, Call call) {
        answers(what, "throws.IllegalStateException", call);
    }

    void fail(String text) {
        wrong++;
        if (wrong <= MOST_PRINTED) {
            System.out.println(part + ": " + text);
        }
    }

    boolean anyWrong() {
        return wrong > 0;
    }

    /** The very class of an exception counts: the machine's own exceptions are subclasses of those of the document. */
    static String outcome(Call call) {
        try {
            return String.valueOf(call.answer());
        } catch (RuntimeException | Error e) {
            return "throws." + e.getClass().getSimpleName();
        }
    }

    void end() {
        System.out.println(checked + " answers checked, " + wrong + " not as due");
        if (wrong > 0 || checked == 0) {
            System.exit(1);
        }
    }
}
