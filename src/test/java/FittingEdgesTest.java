/** Terms 2 and promises 15 to 24 (sizes, actors, fittings): a test for each sentence that names a boundary. */
public final class FittingEdgesTest {
    private static final int BIG = Run.BIG;
    private static final int LOW = Run.LOW;
    private static final int[][] NEEDS = {{1, 2, 3, 5}, {1, 2, 4}, {1, 2, 4, 5}, {0}};
    private static final int[] PRICES = {2, 2, 3, 5};
    private static final int[] MORE = {0, 4, 4, 0};
    private static final int WRONG = 0;
    private static final int GOOD = 1;
    private static final int OPEN = 2;

    public static void main(String[] args) {
        partsAreZeroToFive();
        sizesAreOfKindZeroToThree();
        sizeIsOneTo255();
        sizeAnswersTheOneBefore();
        reachIsZeroToSixty();
        sizeAndReachLeaveOneAnother();
        alterMovesAllThree();
        alterEndsAtSizeOneAnd255();
        alterEndsAtInZero();
        alterEndsAtOutZero();
        alterGoesBeyondSixty();
        alterDoesNotWrapAround();
        alterWantsASize();
        alterCosts();
        sizeOfWhatIsZeroToTwo();
        actorsAreFortyAtMost();
        measureIsMinusTwoTo3000();
        measuresAreNoneAtFirst();
        wantedIsTheLeastHalfNotBelow();
        wantedAtBothEnds();
        onePartIsWrongOpenOrGood();
        wrongIsLessThanSizeLessIn();
        allPartsAreLookedAt();
        partsThatAreNotNeeded();
        aSetIsWrongOpenOrGood();
        aFullSet();
        costWantsAFitOfOne();
        costOfStepsEitherWay();
        costAtItsMost();
        costOfASetIsTheSum();
        minutesOfEach();
        minutesOfASet();
        washOfEach();
        washOfASet();
        Due.end();
    }

    /** "PARTS are 0 to 5." - "2 beyond: no such (..) PART". */
    private static void partsAreZeroToFive() {
        Run x = new Run("PARTS are 0 to 5");
        x.done("wear", 0);
        x.done("actor");
        for (int part : new int[] {-1, 6, 7, BIG, LOW}) {
            x.refused(2, "size", 0, part, 10);
            x.refused(2, "reach", 0, part, 1, 1);
            x.refused(2, "alter", 0, part, 1);
            x.refused(2, "sizeOf", 0, part, 0);
            x.refused(2, "measure", 0, part, 10);
        }
        for (int part : new int[] {0, 5}) {
            x.gives(0, "size", 0, part, 10);
            x.gives(1, "reach", 0, part, 1, 1);
            x.gives(2, "alter", 0, part, 1);
            x.gives(11, "sizeOf", 0, part, 0);
            x.gives(1, "measure", 0, part, 10);
        }
    }

    /** "A WEAR of KIND 0 to 3 has a SIZE (..)": a SET, a TRUNK, ROWS have none. */
    private static void sizesAreOfKindZeroToThree() {
        Run x = new Run("KIND 0 to 3 has a SIZE");
        for (int kind = 0; kind < 4; kind++) {
            x.done("wear", kind);
        }
        x.done("set");
        x.done("trunk", 1);
        for (int kind = 6; kind < 9; kind++) {
            x.done("row", kind, 6);
        }
        for (int t = 0; t < 4; t++) {
            for (int part = 0; part < 6; part++) {
                x.is(0, "size", t, part, 10 + part);
                x.is(1, "reach", t, part, 1, 1);
                x.is(PRICES[t] + MORE[t], "alter", t, part, 1);
                x.gives(11 + part, "sizeOf", t, part, 0);
            }
        }
        for (int t = 4; t < 9; t++) {
            x.refused(4, "size", t, 0, 10);
            x.refused(4, "reach", t, 0, 1, 1);
            x.refused(4, "alter", t, 0, 1);
            x.refused(4, "sizeOf", t, 0, 0);
        }
    }

    /** "a SIZE (1 to 255 half centimetres, 0: not told) of each PART" */
    private static void sizeIsOneTo255() {
        Run x = new Run("15: size, 0 to 255");
        x.done("wear", 3);
        for (int part = 0; part < 6; part++) {
            x.gives(0, "sizeOf", 0, part, 0);
            x.gives(0, "size", 0, part, 255);
            x.gives(255, "size", 0, part, 1);
            x.gives(1, "size", 0, part, 0);
            x.gives(0, "size", 0, part, 254);
            for (int n : new int[] {-1, 256, 257, 511, -255, BIG, LOW}) {
                x.refused(6, "size", 0, part, n);
            }
            x.gives(254, "sizeOf", 0, part, 0);
        }
    }

    /** Promise 15: "0 for not told: the one before." */
    private static void sizeAnswersTheOneBefore() {
        Run x = new Run("15: size, the one before");
        x.done("wear", 0);
        x.done("actor");
        x.done("reach", 0, 1, 5, 5);
        x.gives(0, "size", 0, 1, 100);
        x.gives(100, "size", 0, 1, 100);
        x.refused(6, "size", 0, 1, 256);
        x.gives(8, "alter", 0, 1, 4);
        // After it was altered, the one before is what it was altered to.
        x.gives(104, "size", 0, 1, 0);
        x.gives(0, "size", 0, 1, 7);
        x.done("undo");
        x.gives(0, "size", 0, 1, 8);
    }

    /** "how far it can be let OUT and taken IN (0 to 60 half centimetres, 0 at first)" */
    private static void reachIsZeroToSixty() {
        for (int part = 0; part < 6; part++) {
            Run x = new Run("16: reach, 0 to 60");
            x.done("wear", 2);
            x.gives(0, "sizeOf", 0, part, 1);
            x.gives(0, "sizeOf", 0, part, 2);
            x.gives(1, "reach", 0, part, 0, 60);
            x.gives(0, "sizeOf", 0, part, 1);
            x.gives(60, "sizeOf", 0, part, 2);
            x.gives(1, "reach", 0, part, 60, 0);
            for (int n : new int[] {-1, 61, 255, BIG, LOW}) {
                x.refused(6, "reach", 0, part, n, 0);
                x.refused(6, "reach", 0, part, 60, n);
                x.refused(6, "reach", 0, part, n, n);
            }
            x.gives(60, "sizeOf", 0, part, 1);
            x.gives(0, "sizeOf", 0, part, 2);
        }
    }

    /** Promises 15, 16: SIZE, and how far; each of its own PART and THING. */
    private static void sizeAndReachLeaveOneAnother() {
        Run x = new Run("15, 16: one leaves the other");
        x.done("wear", 0);
        x.done("wear", 0);
        x.done("size", 0, 2, 100);
        x.done("reach", 0, 2, 3, 4);
        x.gives(100, "sizeOf", 0, 2, 0);
        x.done("size", 0, 2, 0);
        x.gives(3, "sizeOf", 0, 2, 1);
        x.gives(4, "sizeOf", 0, 2, 2);
        for (int what = 0; what < 3; what++) {
            x.gives(0, "sizeOf", 0, 1, what);
            x.gives(0, "sizeOf", 0, 3, what);
            x.gives(0, "sizeOf", 1, 2, what);
        }
    }

    /** A MASK, with SIZE, IN and OUT of PART 0. */
    private static Run mask(String about, int size, int in, int out) {
        Run x = new Run(about);
        x.done("wear", 3);
        x.done("actor");
        x.done("size", 0, 0, size);
        x.done("reach", 0, 0, in, out);
        return x;
    }

    private static void sizes(Run x, int size, int in, int out) {
        x.gives(size, "sizeOf", 0, 0, 0);
        x.gives(in, "sizeOf", 0, 0, 1);
        x.gives(out, "sizeOf", 0, 0, 2);
    }

    /** Promise 17: "the SIZE grows by STEPS (or gets less), OUT gets less by them, IN grows". */
    private static void alterMovesAllThree() {
        Run x = mask("17: alter, all three", 100, 5, 7);
        x.gives(5, "alter", 0, 0, 1);
        sizes(x, 101, 6, 6);
        x.gives(10, "alter", 0, 0, -2);
        sizes(x, 99, 4, 8);
        x.gives(0, "alter", 0, 0, 0);
        sizes(x, 99, 4, 8);
        x.gives(15, "spent");
    }

    /** Promise 17: "(.. 6: SIZE would not be 1 to 255 ..)" - with IN and OUT enough for more. */
    private static void alterEndsAtSizeOneAnd255() {
        Run x = mask("17: alter, SIZE 255", 250, 60, 60);
        x.refused(6, "alter", 0, 0, 6);
        x.gives(25, "alter", 0, 0, 5);
        sizes(x, 255, 65, 55);
        x.refused(6, "alter", 0, 0, 1);
        x = mask("17: alter, SIZE 1", 10, 60, 60);
        x.refused(6, "alter", 0, 0, -10);
        x.refused(6, "alter", 0, 0, -11);
        x.gives(45, "alter", 0, 0, -9);
        sizes(x, 1, 51, 69);
        x.refused(6, "alter", 0, 0, -1);
        x.gives(45, "spent");
    }

    /** Promise 17: "(.. or IN (..) below 0 ..)" */
    private static void alterEndsAtInZero() {
        Run x = mask("17: alter, IN 0", 100, 5, 60);
        x.refused(6, "alter", 0, 0, -6);
        x.gives(25, "alter", 0, 0, -5);
        sizes(x, 95, 0, 65);
        x.refused(6, "alter", 0, 0, -1);
        x.gives(0, "alter", 0, 0, 0);
    }

    /** Promise 17: "(.. OUT below 0 ..)" */
    private static void alterEndsAtOutZero() {
        Run x = mask("17: alter, OUT 0", 100, 60, 5);
        x.refused(6, "alter", 0, 0, 6);
        x.gives(25, "alter", 0, 0, 5);
        sizes(x, 105, 65, 0);
        x.refused(6, "alter", 0, 0, 1);
        x.gives(0, "alter", 0, 0, 0);
        // With neither it stays as it is.
        x = mask("17: alter, IN and OUT 0", 100, 0, 0);
        x.refused(6, "alter", 0, 0, 1);
        x.refused(6, "alter", 0, 0, -1);
        x.gives(0, "alter", 0, 0, 0);
    }

    /**
     * Promise 17: "(.. or above 255)" - IN and OUT are 60 at most as they are told, and alter() leaves
     * their sum: 120 is the most that a run can come to, which is above 60 and not refused.
     */
    private static void alterGoesBeyondSixty() {
        Run x = mask("17: alter, IN and OUT above 60", 100, 60, 60);
        x.gives(300, "alter", 0, 0, 60);
        sizes(x, 160, 120, 0);
        x.refused(6, "alter", 0, 0, 1);
        x.refused(6, "alter", 0, 0, -121);
        x.gives(600, "alter", 0, 0, -120);
        sizes(x, 40, 0, 120);
        x.refused(6, "alter", 0, 0, -1);
        x.gives(900, "spent");
    }

    /** Promise 17: STEPS so many that a sum of them would wrap around. */
    private static void alterDoesNotWrapAround() {
        for (int[] sizes : new int[][] {{1, 0, 60}, {1, 60, 0}, {255, 60, 0}, {255, 60, 60}, {128, 60, 60}}) {
            Run x = mask("17: alter, wrapping", sizes[0], sizes[1], sizes[2]);
            for (int steps : new int[] {BIG, BIG - 1, BIG - 60, BIG - 254, BIG - 255, BIG - 256, LOW, LOW + 1, LOW + 60,
                LOW + 254, LOW + 255, LOW + 256, 256, -256, 255, -255, 512, 65536, -65536, 1 << 24, 1 << 30, -(1 << 30)}) {
                x.refused(6, "alter", 0, 0, steps);
            }
            sizes(x, sizes[0], sizes[1], sizes[2]);
        }
    }

    /** Promise 17: "(.. 12: the SIZE is not told ..)" */
    private static void alterWantsASize() {
        Run x = mask("17: alter, SIZE not told", 0, 60, 60);
        for (int steps : new int[] {0, 1, -1, 61, BIG, LOW}) {
            x.refused(12, "alter", 0, 0, steps);
        }
        x.done("size", 0, 0, 1);
        x.gives(5, "alter", 0, 0, 1);
        x.done("size", 0, 0, 0);
        x.refused(12, "alter", 0, 0, 1);
        // Another PART of it is told or not by itself.
        x.refused(12, "alter", 0, 1, 0);
        x.gives(5, "spent");
    }

    /** "To ALTER a PART by STEPS (up or down) costs as much as these STEPS alone (those 4, too, if there are any)." */
    private static void alterCosts() {
        for (int kind = 0; kind < 4; kind++) {
            Run x = new Run("17: alter, what it costs, KIND " + kind);
            x.done("wear", kind);
            int spent = 0;
            for (int part = 0; part < 6; part++) {
                x.done("size", 0, part, 100);
                x.done("reach", 0, part, 60, 60);
                for (int steps : new int[] {0, 1, -1, 60, -120}) {
                    int due = steps == 0 ? 0 : Math.abs(steps) * PRICES[kind] + MORE[kind];
                    x.gives(due, "alter", 0, part, steps);
                    spent += due;
                    x.gives(spent, "spent");
                }
            }
        }
    }

    /** Promise 18: "The SIZE (what 0), IN (1), OUT (2) of a PART. (.. 6: what)" */
    private static void sizeOfWhatIsZeroToTwo() {
        Run x = mask("18: sizeOf", 100, 3, 4);
        sizes(x, 100, 3, 4);
        for (int what : new int[] {-1, 3, BIG, LOW}) {
            x.refused(6, "sizeOf", 0, 0, what);
        }
    }

    /** "ACTORS have numbers from 0 on, 40 at most" */
    private static void actorsAreFortyAtMost() {
        Run x = new Run("19: actor, 40 at most");
        x.done("wear", 3);
        for (int a = 0; a < 40; a++) {
            x.refused(10, "measure", a, 0, 0);
            x.gives(a, "actor");
        }
        x.refused(6, "actor");
        x.refused(6, "actor");
        for (int a : new int[] {-1, 40, 41, BIG, LOW}) {
            x.refused(10, "measure", a, 0, 0);
            x.refused(10, "fits", a, 0);
            x.refused(10, "cost", a, 0);
            x.refused(10, "role", a, 0);
        }
        x.gives(1, "measure", 39, 5, 3000);
        x.gives(2, "fits", 39, 0);
        x.gives(0, "role", 39, 0);
        x.gives(1, "wear", 3);
    }

    /** Promise 20: "(.. 6: v is not -2 to 3000)" */
    private static void measureIsMinusTwoTo3000() {
        Run x = mask("20: measure", 100, 0, 0);
        for (int v : new int[] {-3, 3001, -2000, 4000, BIG, LOW}) {
            x.refused(6, "measure", 0, 0, v);
            x.gives(2, "fits", 0, 0);
        }
        int[][] fits = {{-2, WRONG}, {-1, OPEN}, {0, WRONG}, {3000, WRONG}, {500, GOOD}};
        for (int[] fit : fits) {
            x.gives(1, "measure", 0, 0, fit[0]);
            x.gives(fit[1], "fits", 0, 0);
        }
    }

    /** "a measure of each PART: (..) NONE (as at first)" */
    private static void measuresAreNoneAtFirst() {
        for (int kind = 0; kind < 4; kind++) {
            Run x = new Run("a measure is NONE at first");
            x.done("wear", kind);
            x.done("actor");
            for (int part = 0; part < 6; part++) {
                x.done("size", 0, part, 1);
            }
            for (int part : NEEDS[kind]) {
                x.gives(OPEN, "fits", 0, 0);
                x.done("measure", 0, part, 5);
            }
            x.gives(GOOD, "fits", 0, 0);
            x.done("actor");
            x.gives(OPEN, "fits", 1, 0);
        }
    }

    /** "What an ACTOR WANTS of a PART is the least number of half centimetres that is not below the measure." */
    private static void wantedIsTheLeastHalfNotBelow() {
        Run x = mask("what is WANTED", 40, 40, 60);
        for (int v = 0; v <= 500; v++) {
            int wanted = 0;
            while (wanted * 5 < v) {
                wanted++;
            }
            x.is(1, "measure", 0, 0, v);
            x.is(5 * Math.abs(wanted - 40), "cost", 0, 0);
            if (v % 50 == 49) {
                x = mask("what is WANTED", 40, 40, 60);
            }
        }
    }

    /** What is WANTED at 0, at the greatest SIZE, at the farthest that one can be let OUT, and at 3000. */
    private static void wantedAtBothEnds() {
        int[][] rows = {
            {0, 1, 0, 0, WRONG}, {0, 1, 1, 0, GOOD}, {0, 60, 60, 0, GOOD}, {0, 61, 60, 0, WRONG}, {0, 1, 60, 60, GOOD},
            {1, 1, 0, 0, GOOD}, {5, 1, 0, 0, GOOD}, {6, 1, 0, 0, WRONG}, {6, 1, 0, 1, GOOD}, {10, 2, 0, 0, GOOD},
            {1270, 255, 0, 0, WRONG}, {1271, 255, 0, 0, GOOD}, {1275, 255, 0, 0, GOOD}, {1276, 255, 0, 0, WRONG},
            {1276, 255, 0, 1, GOOD}, {1575, 255, 0, 60, GOOD}, {1576, 255, 0, 60, WRONG}, {3000, 255, 60, 60, WRONG},
        };
        for (int[] row : rows) {
            Run x = mask("measure " + row[0] + ", SIZE " + row[1], row[1], row[2], row[3]);
            x.done("measure", 0, 0, row[0]);
            x.gives(row[4], "fits", 0, 0);
        }
    }

    /** "each PART that it NEEDS is wrong, if the measure is ENDLESS; else open, if the SIZE is not told or the measure is NONE". */
    private static void onePartIsWrongOpenOrGood() {
        int[][] rows = {{-2, 0, WRONG}, {-2, 100, WRONG}, {-1, 0, OPEN}, {-1, 100, OPEN}, {500, 0, OPEN}, {0, 0, OPEN},
            {3000, 0, OPEN}, {500, 100, GOOD}, {505, 100, WRONG}};
        for (int[] row : rows) {
            Run x = mask("measure " + row[0] + ", SIZE " + row[1], row[1], 0, 0);
            x.done("measure", 0, 0, row[0]);
            x.gives(row[2], "fits", 0, 0);
        }
    }

    /** "else wrong, if what is WANTED is less than SIZE less IN, or more than SIZE and OUT." */
    private static void wrongIsLessThanSizeLessIn() {
        for (int in : new int[] {0, 1, 60}) {
            for (int out : new int[] {0, 1, 60}) {
                Run x = mask("IN " + in + ", OUT " + out, 100, in, out);
                int[][] rows = {{100 - in - 1, WRONG}, {100 - in, GOOD}, {100, GOOD}, {100 + out, GOOD}, {100 + out + 1, WRONG}};
                for (int[] row : rows) {
                    x.done("measure", 0, 0, 5 * row[0]);
                    x.gives(row[1], "fits", 0, 0);
                }
                // A tenth more than the farthest is half a centimetre more; a tenth more than too little fits.
                x.done("measure", 0, 0, 5 * (100 + out) + 1);
                x.gives(WRONG, "fits", 0, 0);
                x.done("measure", 0, 0, 5 * (100 - in - 1) + 1);
                x.gives(GOOD, "fits", 0, 0);
            }
        }
    }

    /** "FITS is 0 if one is wrong; else 2 (OPEN) if one is open; else 1." - in all ways that its PARTS can be. */
    private static void allPartsAreLookedAt() {
        for (int kind = 0; kind < 4; kind++) {
            int[] needs = NEEDS[kind];
            int ways = 1;
            for (int k = 0; k < needs.length; k++) {
                ways *= 3;
            }
            for (int way = 0; way < ways; way++) {
                Run x = new Run("FITS, KIND " + kind + ", way " + way);
                x.done("wear", kind);
                x.done("actor");
                int due = GOOD;
                int left = way;
                for (int part : needs) {
                    int how = left % 3;
                    left /= 3;
                    setPart(x, part, how);
                    due = due == WRONG || how == WRONG ? WRONG : due == OPEN || how == OPEN ? OPEN : GOOD;
                }
                x.gives(due, "fits", 0, 0);
            }
        }
    }

    private static void setPart(Run x, int part, int how) {
        x.done("size", 0, part, how == OPEN && part % 2 == 0 ? 0 : 100);
        x.done("measure", 0, part, how == WRONG ? 506 : how == OPEN && part % 2 == 1 ? -1 : 500);
    }

    /** "It NEEDS PARTS: a DRESS 1, 2, 3, 5; a COAT 1, 2, 4; a UNIFORM 1, 2, 4, 5; a MASK 0." */
    private static void partsThatAreNotNeeded() {
        for (int kind = 0; kind < 4; kind++) {
            Run x = new Run("NEEDS, KIND " + kind);
            x.done("wear", kind);
            x.done("actor");
            for (int part : NEEDS[kind]) {
                x.done("size", 0, part, 100);
                x.done("measure", 0, part, 500);
            }
            for (int part = 0; part < 6; part++) {
                boolean isNeeded = false;
                for (int need : NEEDS[kind]) {
                    isNeeded = isNeeded || need == part;
                }
                x.done("measure", 0, part, -2);
                x.gives(isNeeded ? WRONG : GOOD, "fits", 0, 0);
                x.done("measure", 0, part, -1);
                x.gives(isNeeded ? OPEN : GOOD, "fits", 0, 0);
                x.done("size", 0, part, 90);
                x.done("measure", 0, part, 500);
                x.gives(isNeeded ? WRONG : GOOD, "fits", 0, 0);
                x.done("undo");
                x.done("undo");
                x.done("undo");
                x.done("undo");
                x.gives(GOOD, "fits", 0, 0);
                x.gives(0, "cost", 0, 0);
            }
        }
    }

    /** "A SET's: 0 if one of what is in it has 0; else 2 if one has 2 or nothing is in it; else 1." */
    private static void aSetIsWrongOpenOrGood() {
        int[] sizes = {90, 100, 0};
        for (int way = 0; way < 64; way++) {
            Run x = new Run("a SET's FITS, way " + way);
            x.done("actor");
            x.done("measure", 0, 0, 500);
            x.done("set");
            int[] hows = {way % 4, way / 4 % 4, way / 16};
            boolean isWrong = false;
            boolean isOpen = false;
            boolean isEmpty = true;
            for (int k = 0; k < 3; k++) {
                if (hows[k] == 3) {
                    continue;
                }
                int t = x.done("wear", 3);
                x.done("size", t, 0, sizes[hows[k]]);
                x.done("put", 1000, k == 0 ? 0 : k == 1 ? 3 : 5, t);
                x.gives(hows[k], "fits", 0, t);
                isWrong = isWrong || hows[k] == WRONG;
                isOpen = isOpen || hows[k] == OPEN;
                isEmpty = false;
            }
            x.gives(isWrong ? WRONG : isOpen || isEmpty ? OPEN : GOOD, "fits", 0, 0);
        }
    }

    /** "A SET's: 0 if one of what is in it has 0": each of the six SLOTS counts. */
    private static void aFullSet() {
        Run x = new Run("a full SET's FITS");
        x.done("actor");
        x.done("measure", 0, 0, 500);
        x.done("set");
        for (int s = 0; s < 6; s++) {
            x.done("size", x.done("wear", 3), 0, 100);
            x.done("put", 1000, s, s + 1);
        }
        x.gives(GOOD, "fits", 0, 0);
        for (int s = 0; s < 6; s++) {
            x.done("size", s + 1, 0, 0);
            x.gives(OPEN, "fits", 0, 0);
            x.done("size", s + 1, 0, 99);
            x.gives(WRONG, "fits", 0, 0);
            x.done("take", 1000, s);
            x.gives(GOOD, "fits", 0, 0);
            x.done("size", s + 1, 0, 100);
            x.done("put", 1000, s, s + 1);
        }
        x.gives(GOOD, "fits", 0, 0);
    }

    /** Promise 22: "COST. (10; 4; 12)" - "12 it does not FIT, or is OPEN". */
    private static void costWantsAFitOfOne() {
        Run x = mask("22: cost", 100, 1, 1);
        x.refused(12, "cost", 0, 0);
        x.done("measure", 0, 0, 494);
        x.gives(5, "cost", 0, 0);
        x.done("measure", 0, 0, 490);
        x.refused(12, "cost", 0, 0);
        x.done("measure", 0, 0, -2);
        x.refused(12, "cost", 0, 0);
        x.done("set");
        x.refused(12, "cost", 0, 1);
        x.done("measure", 0, 0, 505);
        x.gives(5, "cost", 0, 0);
        x.refused(12, "cost", 0, 1);
        x.done("put", 1001, 0, 0);
        x.gives(5, "cost", 0, 1);
        x.done("size", 0, 0, 0);
        x.refused(12, "cost", 0, 1);
    }

    /** "the STEPS from SIZE to what is WANTED (either way), each at a price: a DRESS 2; a COAT 2, and 4 in all if there are any STEPS; a UNIFORM 3, and these 4; a MASK 5." */
    private static void costOfStepsEitherWay() {
        for (int kind = 0; kind < 4; kind++) {
            for (int steps : new int[] {0, 1, -1, 2, -2, 60, -60}) {
                Run x = allParts("22: cost, KIND " + kind, kind);
                for (int part : NEEDS[kind]) {
                    x.done("measure", 0, part, 5 * (100 + steps));
                    x.done("measure", 0, part, 500);
                    x.gives(0, "cost", 0, 0);
                    x.done("measure", 0, part, 5 * (100 + steps));
                    int due = steps == 0 ? 0 : Math.abs(steps) * PRICES[kind] + MORE[kind];
                    x.gives(due, "cost", 0, 0);
                    x.done("measure", 0, part, 500);
                }
            }
        }
    }

    private static Run allParts(String about, int kind) {
        Run x = new Run(about);
        x.done("wear", kind);
        x.done("actor");
        for (int part = 0; part < 6; part++) {
            x.done("size", 0, part, 100);
            x.done("reach", 0, part, 60, 60);
            x.done("measure", 0, part, 500);
        }
        return x;
    }

    /** COST with the most STEPS that are told, up in one PART and down in the next: they do not weigh each other out. */
    private static void costAtItsMost() {
        for (int kind = 0; kind < 4; kind++) {
            Run x = allParts("22: cost, at its most", kind);
            int n = 0;
            for (int part : NEEDS[kind]) {
                x.done("measure", 0, part, n % 2 == 0 ? 5 * 160 : 5 * 40);
                n++;
                x.gives(n * 60 * PRICES[kind] + MORE[kind], "cost", 0, 0);
            }
        }
    }

    /** "A SET's is the sum of those in it." - those 4 for each COAT and UNIFORM that has STEPS. */
    private static void costOfASetIsTheSum() {
        Run x = new Run("22: cost of a SET");
        x.done("set");
        x.done("actor");
        for (int part = 0; part < 6; part++) {
            x.done("measure", 0, part, 5 * 160);
        }
        int[] kinds = {2, 2, 2, 1, 0, 3};
        int due = 0;
        for (int s = 0; s < 6; s++) {
            int t = x.done("wear", kinds[s]);
            for (int part : NEEDS[kinds[s]]) {
                x.done("size", t, part, 100);
                x.done("reach", t, part, 0, 60);
            }
            x.done("put", 1000, s, t);
            due += NEEDS[kinds[s]].length * 60 * PRICES[kinds[s]] + MORE[kinds[s]];
            x.gives(due, "cost", 0, 0);
        }
        for (int part = 0; part < 6; part++) {
            x.done("measure", 0, part, 500);
        }
        x.gives(0, "cost", 0, 0);
    }

    /** "MINUTES to put it on: 3; a COAT 1, a UNIFORM 6" */
    private static void minutesOfEach() {
        Run x = new Run("23: minutes");
        int[] due = {3, 1, 6, 3};
        for (int kind = 0; kind < 4; kind++) {
            x.gives(due[kind], "minutes", x.done("wear", kind));
        }
        x.refused(4, "minutes", x.done("trunk", 1));
        for (int kind = 6; kind < 9; kind++) {
            x.refused(4, "minutes", x.done("row", kind, 1));
        }
        x.refused(10, "minutes", 8);
        x.refused(10, "minutes", -1);
    }

    /** "a SET the sum of those in it." - nothing, and all full. */
    private static void minutesOfASet() {
        int[] due = {3, 1, 6, 3};
        for (int kind = 0; kind < 4; kind++) {
            Run x = new Run("23: minutes of a SET");
            x.done("set");
            x.gives(0, "minutes", 0);
            for (int s = 5; s >= 0; s--) {
                x.done("put", 1000, s, x.done("wear", kind));
                x.gives((6 - s) * due[kind], "minutes", 0);
            }
            x.done("take", 1000, 5);
            x.gives(5 * due[kind], "minutes", 0);
        }
    }

    /** Promise 24: "Days in the wash: 2; of a COAT 5, of a UNIFORM 6 (..); a MASK is not washed. (10; 4: a MASK, too)" */
    private static void washOfEach() {
        Run x = new Run("24: wash");
        int[] due = {2, 5, 6};
        for (int kind = 0; kind < 3; kind++) {
            x.gives(due[kind], "wash", x.done("wear", kind));
        }
        x.refused(4, "wash", x.done("wear", 3));
        x.refused(4, "wash", x.done("trunk", 1));
        for (int kind = 6; kind < 9; kind++) {
            x.refused(4, "wash", x.done("row", kind, 1));
        }
        x.refused(10, "wash", 8);
        x.refused(10, "wash", -1);
    }

    /** Promise 24: "of a SET the most of those in it that are washed (0 without such), and 1" */
    private static void washOfASet() {
        int[][] rows = {{}, {3}, {3, 3, 3, 3, 3, 3}, {0}, {1}, {2}, {0, 3}, {3, 0}, {0, 1}, {1, 0}, {2, 1, 0}, {0, 1, 2},
            {0, 0, 0, 0, 0, 0}, {1, 0, 0, 3, 0, 1}, {3, 3, 3, 3, 3, 2}, {2, 2, 2, 2, 2, 2}};
        int[] due = {1, 1, 1, 3, 6, 7, 3, 3, 6, 6, 7, 7, 3, 6, 7, 7};
        for (int k = 0; k < rows.length; k++) {
            Run x = new Run("24: wash of a SET");
            x.done("set");
            for (int s = 0; s < rows[k].length; s++) {
                x.done("put", 1000, s, x.done("wear", rows[k][s]));
            }
            x.gives(due[k], "wash", 0);
        }
    }
}
