/** Compares answers with those that are due, and ends the test with exit code 1 if one differs. */
final class Due {
    private static int wrong = 0;
    private static int asked = 0;
    private static String under = "";

    private Due() {
    }

    static void is(String call, long got, long want) {
        asked++;
        if (got != want) {
            tell(call + " answered " + got + ", due is " + want);
        }
    }

    static void is(String call, boolean got, boolean want) {
        is(call, got ? 1L : 0L, want ? 1L : 0L);
    }

    /** The test of one sentence of the document; what is wrong in it is told with that sentence. */
    static void sentence(String words, Runnable test) {
        int before = asked;
        under = "[" + words + "] ";
        try {
            test.run();
        } catch (RuntimeException e) {
            // The other sentences are still to be tested.
            tell("threw " + e);
        }
        if (asked == before) {
            tell("asked nothing");
        }
        under = "";
    }

    static boolean allRight() {
        return wrong == 0;
    }

    static void end() {
        System.out.println(asked + " answers, " + wrong + " not as due");
        if (asked == 0 || wrong != 0) {
            System.exit(1);
        }
    }

    private static void tell(String line) {
        wrong++;
        System.out.println(under + line);
    }
}
