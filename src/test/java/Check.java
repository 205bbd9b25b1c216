/** Holds answers against those that are due, and counts the wrong ones. */
abstract class Check {
    interface Call {
        long answer();
    }

    private static String sentence = "";
    private static int wrong = 0;

    /** The document's words that the next answers belong to; they stand before each wrong answer. */
    static void sentence(String words) {
        sentence = words;
    }

    static void due(String call, long got, long want) {
        if (got != want) {
            tell(call + " answered " + got + ", due is " + want);
        }
    }

    static void due(String call, String got, String want) {
        if (!got.equals(want)) {
            tell(call + " was " + got + ", due is " + want);
        }
    }

    static void dueThrow(String call, Class<? extends RuntimeException> want, Call made) {
        String got;
        try {
            got = "answered " + made.answer();
        } catch (RuntimeException thrown) {
            if (thrown.getClass() == want) {
                return;
            }
            got = "threw " + thrown.getClass().getSimpleName();
        }
        tell(call + " " + got + ", due is a throw of " + want.getSimpleName());
    }

    static void outOfBounds(String call, Call made) {
        dueThrow(call, IndexOutOfBoundsException.class, made);
    }

    static void wrongArgument(String call, Call made) {
        dueThrow(call, IllegalArgumentException.class, made);
    }

    static void wrongState(String call, Call made) {
        dueThrow(call, IllegalStateException.class, made);
    }

    static void finish() {
        System.out.println(wrong == 0 ? "all answers are as due" : wrong + " answers are not as due");
        if (wrong != 0) {
            System.exit(1);
        }
    }

    private static void tell(String what) {
        wrong++;
        System.out.println((sentence.isEmpty() ? "" : "\"" + sentence + "\": ") + what);
    }
}
