/** Terms 4 and promises 31 to 35 (hires, purse, share): a test for each sentence that names a boundary. */
public final class HireEdgesTest {
    private static final int BIG = Run.BIG;
    private static final int LOW = Run.LOW;

    public static void main(String[] args) {
        hiresAreNumberedFromZero();
        noNumberIsGivenTwice();
        asManyHiresAsCallsAllow();
        threeHundredHiresBeyondTheLastCall();
        kindsZeroToFiveGoOut();
        whatIsInASlotGoesOut();
        goesOutOfAnySlot();
        depositIsZeroToAMillion();
        depositComesIntoThePurse();
        noSuchHire();
        whatIsBackIsBack();
        whatWasUndoneCannotComeBack();
        backIntoTheFirstAndTheLastSlot();
        backIntoAFullSlot();
        backIntoASet();
        backIntoASetAlwaysByKind();
        keptIsZeroToTheDeposit();
        theRestGoes();
        purseAtItsMost();
        spentGrowsByAlteringAlone();
        shareOfNothing();
        shareAmongNobody();
        shareAmongLessThanNobody();
        shareOfNoSuchRank();
        oddCentsGoToTheFirst();
        shareAmongMoreThanThereIs();
        nothingIsTakenByShare();
        Due.end();
    }

    /** A RACK of 40 with MASKS in its SLOTS. */
    private static Run masks(String about, int n) {
        Run x = new Run(about);
        x.done("rack", 40);
        for (int t = 0; t < n; t++) {
            x.done("wear", 3);
            x.done("put", 0, t, t);
        }
        return x;
    }

    /** "HIRES have numbers from 0 on" */
    private static void hiresAreNumberedFromZero() {
        Run x = masks("HIRES from 0 on", 3);
        x.refused(10, "back", 0, 0, 0, 0);
        x.gives(0, "hire", 2, 1);
        x.refused(6, "hire", 1, -1);
        x.refused(8, "hire", 2, 1);
        x.gives(1, "hire", 0, 2);
        x.gives(2, "hire", 1, 3);
        x.gives(3, "back", 2, 0, 9, 0);
        x.gives(1, "back", 0, 0, 8, 0);
        x.gives(2, "back", 1, 0, 7, 0);
        x.gives(2, "inside", 0, 8);
        x.gives(0, "inside", 0, 7);
        x.gives(1, "inside", 0, 9);
    }

    /** "none twice" - nor after it is back, or was undone. */
    private static void noNumberIsGivenTwice() {
        Run x = masks("no number twice", 1);
        x.gives(0, "hire", 0, 1);
        x.gives(1, "back", 0, 0, 0, 0);
        x.gives(1, "hire", 0, 1);
        x.gives(1, "undo");
        x.gives(2, "hire", 0, 1);
        x.gives(1, "undo");
        x.gives(1, "undo");
        x.gives(1, "undo");
        // Now all of them are undone, the first too.
        x.gives(0, "purse");
        x.gives(3, "hire", 0, 1);
        for (int hire = 0; hire < 3; hire++) {
            x.refused(10, "back", hire, 0, 0, 0);
        }
        x.gives(1, "back", 3, 0, 0, 0);
    }

    /**
     * "HIRES (..) 300 at most": a THING must come into a SLOT before each, so that 512 calls come to
     * 255 of them at most, which all have room.
     */
    private static void asManyHiresAsCallsAllow() {
        Run x = masks("as many HIRES as can be", 1);
        for (int hire = 0; hire < 254; hire++) {
            x.is(hire, "hire", 0, 1000000);
            x.is(0, "back", hire, 0, 0, 1000000);
        }
        x.is(254, "hire", 0, 1000000);
        x = masks("as many HIRES as can be, undone", 1);
        for (int hire = 0; hire < 254; hire++) {
            x.is(hire, "hire", 0, 1);
            x.is(1, "undo");
        }
        x.is(0, "purse");
    }

    /** Beyond the 512th call answers are free. The class keeps to "300 at most" there too, so that no call can throw. */
    private static void threeHundredHiresBeyondTheLastCall() {
        CostumeStock x = new CostumeStock();
        x.rack(1);
        x.wear(3);
        x.put(0, 0, 0);
        for (int hire = 0; hire < 300; hire++) {
            Due.answer("hire() " + hire, x.hire(0, 1), hire);
            Due.answer("back() of it", x.back(hire, 0, 0, 1), 0);
        }
        for (int k = 0; k < 20; k++) {
            Due.refused(x, "hire(), the 301st", x.hire(0, 1), 6);
            Due.refused(x, "back(), the 301st", x.back(300, 0, 0, 0), 10);
        }
        Due.answer("purse()", x.purse(), 300);
        Due.done(x, "state(0)", x.state(0), 1);
    }

    /** "A THING of KIND 0 to 5 that is in a SLOT goes OUT" - "(.. 4: ROWS ..)" */
    private static void kindsZeroToFiveGoOut() {
        Run x = new Run("31: hire, KINDS 0 to 5");
        x.done("rack", 40);
        for (int kind = 0; kind < 4; kind++) {
            x.done("wear", kind);
        }
        x.done("set");
        x.done("trunk", 1);
        for (int kind = 6; kind < 9; kind++) {
            x.done("row", kind, 1);
        }
        for (int t = 0; t < 9; t++) {
            x.done("put", 0, t, t);
        }
        for (int t = 0; t < 6; t++) {
            x.gives(t, "hire", t, 1);
            x.gives(2, "state", t);
        }
        for (int t = 6; t < 9; t++) {
            x.refused(4, "hire", t, 1);
            x.gives(1, "state", t);
        }
        x.gives(6, "purse");
    }

    /** "A THING (..) that is in a SLOT": not AT HAND, nor OUT already. */
    private static void whatIsInASlotGoesOut() {
        Run x = masks("31: hire, in a SLOT", 1);
        x.done("take", 0, 0);
        x.refused(8, "hire", 0, 1);
        x.done("put", 0, 0, 0);
        x.gives(0, "hire", 0, 1);
        x.refused(8, "hire", 0, 1);
        x.refused(3, "inside", 0, 0);
        x.gives(0, "back", 0, 0, 0, 1);
        x.gives(1, "hire", 0, 1);
    }

    /** The same: from a SET, a TRUNK, one AT HAND and one that is OUT itself. */
    private static void goesOutOfAnySlot() {
        Run x = new Run("31: hire, from any SLOT");
        x.done("rack", 1);
        x.done("set");
        x.done("trunk", 1);
        x.done("wear", 3);
        x.done("put", 1000, 5, 2);
        x.gives(0, "hire", 2, 1);
        x.refused(3, "inside", 1000, 5);
        x.gives(0, "back", 0, 1001, 0, 1);
        x.gives(1, "hire", 2, 2);
        x.gives(0, "back", 1, 1001, 0, 2);
        x.done("put", 0, 0, 1);
        x.gives(2, "hire", 1, 3);
        x.gives(1, "state", 2);
        x.gives(3, "hire", 2, 4);
        x.gives(2, "state", 2);
        // One comes back into the other, which is OUT still.
        x.gives(4, "back", 3, 1001, 0, 0);
        x.gives(0, "count", 0);
        x.gives(3, "back", 2, 0, 0, 0);
        x.gives(2, "count", 0);
    }

    /** Promise 31: "(.. 6: cents are not 0 to 1000000 ..)" */
    private static void depositIsZeroToAMillion() {
        Run x = masks("31: hire, cents", 2);
        for (int cents : new int[] {-1, 1000001, BIG, LOW}) {
            x.refused(6, "hire", 0, cents);
            x.gives(1, "state", 0);
        }
        x.gives(0, "purse");
        x.gives(0, "hire", 0, 0);
        x.gives(0, "purse");
        x.gives(1, "hire", 1, 1000000);
        x.gives(1000000, "purse");
    }

    /** "with a deposit that comes into the PURSE" */
    private static void depositComesIntoThePurse() {
        Run x = masks("a deposit comes into the PURSE", 3);
        x.done("hire", 0, 999999);
        x.done("hire", 1, 1);
        x.gives(1000000, "purse");
        x.done("hire", 2, 1000000);
        x.gives(2000000, "purse");
    }

    /** Promise 32: "(10: no such HIRE ..)" */
    private static void noSuchHire() {
        Run x = masks("32: back, no such HIRE", 2);
        int[] none = {-1, 0, 1, 299, 300, 301, BIG, LOW};
        for (int hire : none) {
            x.refused(10, "back", hire, 0, 1, 0);
        }
        x.done("hire", 0, 0);
        for (int hire : none) {
            if (hire != 0) {
                x.refused(10, "back", hire, 0, 0, 0);
            }
        }
        x.gives(0, "back", 0, 0, 0, 0);
    }

    /** Promise 32: "(.. it is back ..)" */
    private static void whatIsBackIsBack() {
        Run x = masks("32: back, it is back", 1);
        x.done("hire", 0, 5);
        x.gives(5, "back", 0, 0, 1, 0);
        x.refused(10, "back", 0, 0, 2, 0);
        // Nor does an earlier HIRE end a later one of the same THING.
        x.gives(1, "hire", 0, 6);
        x.refused(10, "back", 0, 0, 2, 0);
        x.gives(2, "state", 0);
        x.gives(6, "purse");
        x.gives(6, "back", 1, 0, 2, 0);
    }

    /** Promise 32: "(.. or was undone ..)", and of undo(): "what is undone of it can't come back". */
    private static void whatWasUndoneCannotComeBack() {
        Run x = masks("32: back, it was undone", 1);
        x.done("hire", 0, 5);
        x.done("undo");
        x.refused(10, "back", 0, 0, 1, 0);
        x.gives(1, "hire", 0, 6);
        x.refused(10, "back", 0, 0, 1, 0);
        x.gives(0, "back", 1, 0, 1, 6);
        // Of the HIRE its coming back is undone: it is OUT, and comes back again.
        x.done("undo");
        x.gives(2, "state", 0);
        x.gives(6, "purse");
        x.gives(2, "back", 1, 0, 2, 4);
        x.done("undo");
        x.done("undo");
        x.refused(10, "back", 1, 0, 1, 0);
        x.gives(0, "purse");
        x.gives(0, "inside", 0, 0);
    }

    /** Promise 32: "It comes back, into a SLOT" - "(.. 2 ..)" */
    private static void backIntoTheFirstAndTheLastSlot() {
        Run x = new Run("32: back, SLOTS");
        x.done("rack", 40);
        x.done("set");
        x.done("trunk", 20);
        x.done("wear", 3);
        x.done("put", 0, 0, 2);
        int[][] holders = {{0, 39}, {1000, 5}, {1001, 19}};
        int hire = 0;
        for (int[] holder : holders) {
            for (int s : new int[] {0, holder[1]}) {
                x.gives(hire, "hire", 2, 3);
                for (int bad : new int[] {-1, holder[1] + 1, BIG, LOW}) {
                    x.refused(2, "back", hire, holder[0], bad, 0);
                }
                x.gives(2, "back", hire, holder[0], s, 1);
                x.gives(2, "inside", holder[0], s);
                x.gives(holder[0], "holder", 2);
                hire++;
            }
        }
        x.gives(6, "purse");
    }

    /** Promise 32: "(.. 5 ..)" - all SLOTS full, then one that is not. */
    private static void backIntoAFullSlot() {
        Run x = masks("32: back, all full", 40);
        x.done("hire", 20, 3);
        x.done("wear", 3);
        x.done("put", 0, 20, 40);
        for (int s : new int[] {0, 20, 39}) {
            x.refused(5, "back", 0, 0, s, 0);
        }
        x.done("take", 0, 39);
        x.gives(3, "back", 0, 0, 39, 0);
        x.gives(40, "count", 0);
    }

    /** Promise 32: "(.. 4 ..: as put() ..)" */
    private static void backIntoASet() {
        Run x = new Run("32: back, into a SET");
        x.done("rack", 40);
        x.done("set");
        for (int kind = 0; kind < 4; kind++) {
            x.done("wear", kind);
        }
        x.done("set");
        x.done("trunk", 1);
        for (int t = 1; t < 7; t++) {
            x.done("put", 0, t, t);
            x.gives(t - 1, "hire", t, 0);
        }
        for (int t = 1; t < 5; t++) {
            x.gives(0, "back", t - 1, 1000, t, 0);
        }
        for (int t = 5; t < 7; t++) {
            x.refused(4, "back", t - 1, 1000, 0, 0);
            x.gives(0, "back", t - 1, 0, t, 0);
        }
    }

    /** The same: a SET into itself, and a TRUNK into a SET that it has in it, are refused by KIND. */
    private static void backIntoASetAlwaysByKind() {
        Run x = new Run("32: back, into a SET of its own");
        x.done("rack", 1);
        x.done("trunk", 1);
        x.done("set");
        x.done("put", 1000, 0, 1);
        x.done("put", 0, 0, 0);
        x.done("hire", 0, 0);
        x.refused(4, "back", 0, 1001, 0, 0);
        x.refused(4, "back", 0, 1001, 5, 9);
        x.gives(0, "back", 0, 0, 0, 0);
    }

    /** Promise 32: "(.. 6: not 0 to the deposit)" */
    private static void keptIsZeroToTheDeposit() {
        for (int deposit : new int[] {0, 1, 7, 1000000}) {
            for (int kept : new int[] {0, deposit / 2, deposit}) {
                Run x = masks("32: back, deposit " + deposit, 2);
                // What is in the PURSE besides is none of this deposit.
                x.done("hire", 1, 100);
                x.done("hire", 0, deposit);
                for (int cents : new int[] {-1, deposit + 1, BIG, LOW}) {
                    x.refused(6, "back", 1, 0, 0, cents);
                }
                x.gives(deposit - kept, "back", 1, 0, 0, kept);
                x.gives(100 + kept, "purse");
            }
        }
    }

    /** "when it is back, so much of that as is told stays there, the rest goes." */
    private static void theRestGoes() {
        Run x = masks("the rest goes", 2);
        x.done("hire", 0, 10);
        x.done("hire", 1, 20);
        x.gives(30, "purse");
        x.gives(6, "back", 0, 0, 0, 4);
        x.gives(24, "purse");
        x.gives(0, "back", 1, 0, 1, 20);
        x.gives(24, "purse");
    }

    /** Promise 33: "What is in the PURSE." - with the largest deposits that many calls can bring. */
    private static void purseAtItsMost() {
        Run x = masks("33: purse", 40);
        for (int t = 0; t < 40; t++) {
            x.is(t, "hire", t, 1000000);
            x.is((t + 1) * 1000000, "purse");
        }
        for (int t = 0; t < 40; t++) {
            x.is(1000000, "back", t, 0, t, 0);
        }
        x.gives(0, "purse");
        x = masks("33: purse, all deposits stay", 1);
        for (int hire = 0; hire < 254; hire++) {
            x.is(hire, "hire", 0, 1000000);
            x.is(0, "back", hire, 0, 0, 1000000);
        }
        x.is(254000000, "purse");
    }

    /** Promise 34: "What was spent on altering." */
    private static void spentGrowsByAlteringAlone() {
        Run x = masks("34: spent", 1);
        x.done("actor");
        x.done("size", 0, 0, 100);
        x.done("reach", 0, 0, 60, 60);
        x.done("measure", 0, 0, 600);
        x.done("role", 0, 0);
        x.gives(100, "cost", 0, 0);
        x.gives(100, "plan");
        x.done("hire", 0, 50);
        x.gives(0, "spent");
        x.gives(0, "alter", 0, 0, 0);
        x.gives(0, "spent");
        x.gives(5, "alter", 0, 0, 1);
        x.gives(300, "alter", 0, 0, -60);
        x.refused(6, "alter", 0, 0, -2);
        x.gives(305, "spent");
        // It is not paid from the PURSE.
        x.gives(50, "purse");
        x.gives(1, "undo");
        x.gives(5, "spent");
    }

    /** Promise 35, the PURSE being empty. */
    private static void shareOfNothing() {
        Run x = new Run("35: share, nothing there");
        x.gives(0, "share", 0, 1);
        x.gives(0, "share", 0, BIG);
        x.gives(0, "share", BIG - 1, BIG);
        x.gives(0, "share", 6, 7);
        x.refused(2, "share", 7, 7);
    }

    private static Run purse(String about, int cents) {
        Run x = masks(about, 1);
        x.done("hire", 0, cents);
        return x;
    }

    /** Promise 35: "(7: n is 0 ..)" */
    private static void shareAmongNobody() {
        for (int cents : new int[] {0, 10}) {
            Run x = purse("35: share, nobody", cents);
            for (int i : new int[] {0, -1, 1, BIG, LOW}) {
                x.refused(7, "share", i, 0);
            }
        }
    }

    /** Promise 35: "(.. 6: below 0 ..)" */
    private static void shareAmongLessThanNobody() {
        Run x = purse("35: share, below 0", 10);
        for (int n : new int[] {-1, -2, -10, -BIG, LOW}) {
            for (int i : new int[] {0, -1, n, BIG}) {
                x.refused(6, "share", i, n);
            }
        }
    }

    /** Promise 35: "the one with rank i (from 0 on) of n" - "(.. 2: no such rank)" */
    private static void shareOfNoSuchRank() {
        Run x = purse("35: share, ranks", 10);
        for (int n : new int[] {1, 2, 10, BIG}) {
            for (int i : new int[] {-1, n, BIG, LOW}) {
                x.refused(2, "share", i, n);
            }
            x.done("share", 0, n);
            x.done("share", n - 1, n);
        }
    }

    /** Promise 35: "as many cents to each, odd ones to the first." */
    private static void oddCentsGoToTheFirst() {
        for (int cents : new int[] {0, 1, 2, 6, 7, 8, 13, 14, 999999, 1000000}) {
            Run x = purse("35: share of " + cents, cents);
            for (int n : new int[] {1, 2, 7}) {
                int sum = 0;
                for (int i = 0; i < n; i++) {
                    int due = cents / n + (i < cents % n ? 1 : 0);
                    x.gives(due, "share", i, n);
                    sum += due;
                }
                Due.answer("35: all shares of " + cents + " among " + n, sum, cents);
            }
        }
    }

    /** The same, where there are fewer cents than ranks: a cent to the first, and nothing to the rest. */
    private static void shareAmongMoreThanThereIs() {
        Run x = purse("35: share, more ranks than cents", 3);
        int[] due = {1, 1, 1, 0, 0};
        for (int i = 0; i < 5; i++) {
            x.gives(due[i], "share", i, 5);
            x.gives(due[i], "share", i, BIG);
        }
        x.gives(1, "share", 2, 3);
        x.gives(1, "share", 2, 4);
        x.gives(0, "share", 3, 4);
        x.gives(0, "share", BIG - 1, BIG);
    }

    /** Promise 35: "(nothing is taken)" */
    private static void nothingIsTakenByShare() {
        Run x = purse("35: share, nothing is taken", 10);
        x.gives(10, "share", 0, 1);
        x.gives(10, "share", 0, 1);
        x.gives(5, "share", 1, 2);
        x.gives(10, "purse");
    }
}
