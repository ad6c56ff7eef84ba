/** Compares answers with those that are due, and ends a test with 1 if one was not. */
final class Due {
    private static int wrong;

    private Due() {
    }

    /** A call that is done: its answer, and STATUS 0 after it. */
    static void done(CostumeStock x, String call, int got, int want) {
        answer(call, got, want);
        answer(call + ", then status()", x.status(), 0);
    }

    /** A call that is refused: -1, and the STATUS that says why. */
    static void refused(CostumeStock x, String call, int got, int why) {
        answer(call, got, -1);
        answer(call + ", then status()", x.status(), why);
    }

    static void answer(String call, long got, long want) {
        if (got != want) {
            wrong++;
            System.out.println(call + " answered " + got + ", due is " + want);
        }
    }

    static void end() {
        System.out.println(wrong == 0 ? "all answers are as due" : wrong + " answers are not as due");
        if (wrong != 0) {
            System.exit(1);
        }
    }
}
