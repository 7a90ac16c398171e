/** Compares answers with those that are due; a test ends with exit code 1 if one was wrong. */
final class Check {
    static final Class<IndexOutOfBoundsException> PLACE = IndexOutOfBoundsException.class;
    static final Class<IllegalArgumentException> ARGUMENT = IllegalArgumentException.class;
    static final Class<UnsupportedOperationException> FULL =
            UnsupportedOperationException.class;

    /** A call of the class under test. */
    interface Call {
        int answer();
    }

    private static int checks = 0;
    private static int wrong = 0;
    private static String sentence = "";

    private Check() {
    }

    /** Names the document's words that the checks from here on hold to. */
    static void sentence(String words) {
        sentence = "'" + words + "' ";
    }

    static void due(String what, int want, Call call) {
        said(what, Integer.toString(want), outcome(call));
    }

    /** The very class: an exception of the machine is a subclass of one that the document names. */
    static void thrown(String what, Class<? extends RuntimeException> want, Call call) {
        said(what, want.getName(), outcome(call));
    }

    static void said(String what, String want, String got) {
        checks++;
        if (!got.equals(want)) {
            wrong++;
            System.out.println(sentence + what + ": answered " + got + ", due is " + want);
        }
    }

    /** The answer as a text, or the name of what the call throws. */
    static String outcome(Call call) {
        try {
            return Integer.toString(call.answer());
        } catch (RuntimeException thrown) {
            return thrown.getClass().getName();
        }
    }

    static void end() {
        System.out.println(checks + " checks, " + wrong + " wrong");
        if (wrong != 0 || checks == 0) {
            System.exit(1);
        }
    }
}
