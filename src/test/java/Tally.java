/** Counts the answers that a test looked at, tells each that is not as due, and ends the test. */
final class Tally {
    private static int asked;
    private static int wrong;
    private static String sentence = "";

    private Tally() {
    }

    /** The sentence of the document that the answers from here on are held against. */
    static void sentence(String promise, String words) {
        sentence = "promise " + promise + ", \"" + words + "\"";
    }

    static void due(String call, long got, long want) {
        asked++;
        if (got != want) tell(call + " answered " + got + ", due is " + want);
    }

    static void tell(String what) {
        wrong++;
        // A broken class would tell thousands of rows that say the same.
        if (wrong <= 60) System.out.println(sentence + ": " + what);
    }

    static void end(String test) {
        System.out.println(test + ": " + asked + " answers, " + wrong + " wrong");
        if (wrong != 0) System.exit(1);
    }
}
