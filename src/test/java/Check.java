/** What the tests share: they count wrong answers, print each, and end with exit code 1 if there was one. */
final class Check {
    interface Call {
        long answer();
    }

    static final long OUT_OF_BOUNDS = Long.MIN_VALUE + 1;
    static final long BAD_ARGUMENT = Long.MIN_VALUE + 2;
    static final long BAD_STATE = Long.MIN_VALUE + 3;

    private static String part = "";
    private static int asked = 0;
    private static int wrong = 0;

    private Check() {
    }

    static void part(String name) {
        part = name;
    }

    /** The answer of a call, or the number of the very exception that it throws; another one ends the test. */
    static long outcome(Call call) {
        try {
            return call.answer();
        } catch (RuntimeException e) {
            return numberOf(e);
        }
    }

    private static long numberOf(RuntimeException thrown) {
        if (thrown.getClass() == IndexOutOfBoundsException.class) {
            return OUT_OF_BOUNDS;
        }
        if (thrown.getClass() == IllegalArgumentException.class) {
            return BAD_ARGUMENT;
        }
        if (thrown.getClass() == IllegalStateException.class) {
            return BAD_STATE;
        }
        throw new AssertionError("not an exception of the document", thrown);
    }

    static boolean isThrown(long outcome) {
        return outcome == OUT_OF_BOUNDS || outcome == BAD_ARGUMENT || outcome == BAD_STATE;
    }

    static void is(String what, long due, long got) {
        asked++;
        if (due != got) {
            wrong++;
            System.out.println(part + ": " + what + " answered " + named(got) + ", due is " + named(due));
        }
    }

    static void is(String what, boolean due, boolean got) {
        is(what, due ? 1 : 0, got ? 1 : 0);
    }

    static void gives(String what, long due, Call call) {
        is(what, due, outcome(call));
    }

    static void end() {
        System.out.println(asked + " answers, " + wrong + " wrong");
        if (wrong != 0) {
            System.exit(1);
        }
    }

    static String named(long outcome) {
        if (outcome == OUT_OF_BOUNDS) {
            return "throws.IndexOutOfBoundsException";
        }
        if (outcome == BAD_ARGUMENT) {
            return "throws.IllegalArgumentException";
        }
        if (outcome == BAD_STATE) {
            return "throws.IllegalStateException";
        }
        return Long.toString(outcome);
    }
}
