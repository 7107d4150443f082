/** Counts what was looked at and what was wrong, and prints what was wrong. */
final class Check {
    /** A call whose answer, or exception, is looked at. */
    interface Call {
        int run();
    }

    private static int looked = 0;
    private static int wrong = 0;
    private static String sentence = "";

    private Check() {
    }

    /** What follows is looked at for this sentence of the document. */
    static void sentence(String words) {
        sentence = "[" + words + "] ";
    }

    static void is(String what, Object want, Object got) {
        looked++;
        if (!want.equals(got)) {
            wrong++;
            System.out.println(sentence + what + " answered " + got + ", due is " + want);
        }
    }

    static void argument(String what, Call call) {
        is(what, "IllegalArgumentException", thrownBy(call));
    }

    static void state(String what, Call call) {
        is(what, "IllegalStateException", thrownBy(call));
    }

    static void nothing(String what, Call call) {
        is(what, "NoSuchElementException", thrownBy(call));
    }

    static void error(String what, Call call) {
        is(what, "UnsupportedOperationException", thrownBy(call));
    }

    /** The exception's name, or the answer if there was none. */
    static String thrownBy(Call call) {
        try {
            return Integer.toString(call.run());
        } catch (RuntimeException e) {
            return e.getClass().getSimpleName();
        }
    }

    /** Prints the count for a test and ends the program with 1 if anything was wrong. */
    static void end(String test) {
        System.out.println(test + ": " + looked + " looked at, " + wrong + " wrong");
        if (looked == 0 || wrong != 0) {
            System.exit(1);
        }
    }
}
