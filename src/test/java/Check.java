/** Counts and prints the answers that are not as due. */
final class Check {
    private static int wrong = 0;
    private static int asked = 0;

    private Check() {
    }

    static void due(String call, long got, long want) {
        asked++;
        if (got != want) {
            wrong++;
            System.out.println(call + " answered " + got + ", due is " + want);
        }
    }

    static void due(String call, boolean got, boolean want) {
        due(call, got ? 1 : 0, want ? 1 : 0);
    }

    /** The fraction at hand. */
    static void hand(String after, LettersByLot lots, long top, long bottom) {
        due("top() after " + after, lots.top(), top);
        due("bottom() after " + after, lots.bottom(), bottom);
    }

    /** A call that puts a fraction at hand. */
    static void held(String call, boolean got, LettersByLot lots, long top, long bottom) {
        due(call, got, true);
        hand(call, lots, top, bottom);
    }

    static void end() {
        System.out.println(asked + " answers, " + wrong + " not as due");
        if (wrong != 0) {
            System.exit(1);
        }
    }
}
