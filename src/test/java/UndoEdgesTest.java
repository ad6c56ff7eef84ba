/** Promise 38 (undo): a test for each part of its sentence that names a boundary. */
public final class UndoEdgesTest {
    public static void main(String[] args) {
        nothingToUndoAtFirst();
        nothingToUndoAnyMore();
        putIsTakenBack();
        takeIsTakenBack();
        sizeIsTakenBack();
        reachIsTakenBack();
        alterIsTakenBack();
        measureIsTakenBack();
        hireIsTakenBack();
        backIsTakenBack();
        otherCallsAreNot();
        refusedCallsWereNotDone();
        whatChangedNothingWasDone();
        whatIsTakenBackIsNotTakenBackAgain();
        latestGoesFirst();
        otherThingsStayAsTheyAre();
        aHiresNumberIsNotGivenAgain();
        allThatAreNested();
        moreThanCanBeTakenBack();
        Due.end();
    }

    /** Promise 38: "(11)" - "11 nothing to undo": a new object. */
    private static void nothingToUndoAtFirst() {
        Run x = new Run("38: undo, at first");
        x.refused(11, "undo");
        x.refused(11, "undo");
    }

    /** The same, when all was taken back. */
    private static void nothingToUndoAnyMore() {
        Run x = new Run("38: undo, no more");
        x.done("wear", 3);
        x.done("size", 0, 0, 1);
        x.done("size", 0, 0, 2);
        x.gives(1, "undo");
        x.gives(1, "undo");
        x.refused(11, "undo");
        x.gives(0, "sizeOf", 0, 0, 0);
        x.done("size", 0, 0, 3);
        x.gives(1, "undo");
        x.refused(11, "undo");
    }

    private static Run house(String about) {
        Run x = new Run("38: undo, " + about);
        x.done("rack", 40);
        x.done("set");
        x.done("trunk", 20);
        x.done("wear", 3);
        x.done("actor");
        return x;
    }

    /** "The latest of put() (..) is taken back": into the first and the last SLOT of each HOLDER. */
    private static void putIsTakenBack() {
        Run x = house("put()");
        for (int[] place : new int[][] {{0, 0}, {0, 39}, {1000, 0}, {1000, 5}, {1001, 0}, {1001, 19}}) {
            x.gives(1, "put", place[0], place[1], 2);
            x.gives(1, "undo");
            x.gives(0, "state", 2);
            x.refused(8, "holder", 2);
            x.refused(3, "inside", place[0], place[1]);
            x.refused(11, "undo");
        }
    }

    /** "take()" */
    private static void takeIsTakenBack() {
        for (int[] place : new int[][] {{0, 0}, {0, 39}, {1000, 0}, {1000, 5}, {1001, 0}, {1001, 19}}) {
            Run x = house("take()");
            x.done("put", place[0], place[1], 2);
            x.gives(2, "take", place[0], place[1]);
            x.gives(1, "undo");
            x.gives(1, "state", 2);
            x.gives(place[0], "holder", 2);
            x.gives(2, "inside", place[0], place[1]);
            x.gives(1, "undo");
            x.gives(0, "state", 2);
            x.refused(11, "undo");
        }
    }

    /** "size()": told for the first time, told otherwise, and not told any more. */
    private static void sizeIsTakenBack() {
        Run x = house("size()");
        int[] sizes = {1, 255, 0, 100};
        for (int size : sizes) {
            x.done("size", 2, 5, size);
        }
        for (int k = 3; k >= 0; k--) {
            x.gives(sizes[k], "sizeOf", 2, 5, 0);
            x.gives(1, "undo");
        }
        x.gives(0, "sizeOf", 2, 5, 0);
        x.refused(11, "undo");
    }

    /** "reach()": IN and OUT both. */
    private static void reachIsTakenBack() {
        Run x = house("reach()");
        x.done("reach", 2, 0, 60, 1);
        x.done("reach", 2, 0, 0, 60);
        x.gives(1, "undo");
        x.gives(60, "sizeOf", 2, 0, 1);
        x.gives(1, "sizeOf", 2, 0, 2);
        x.gives(1, "undo");
        x.gives(0, "sizeOf", 2, 0, 1);
        x.gives(0, "sizeOf", 2, 0, 2);
        x.refused(11, "undo");
    }

    /** "alter()": SIZE, IN, OUT and what was spent. */
    private static void alterIsTakenBack() {
        Run x = house("alter()");
        x.done("size", 2, 0, 100);
        x.done("reach", 2, 0, 60, 60);
        x.gives(300, "alter", 2, 0, 60);
        x.gives(600, "alter", 2, 0, -120);
        int[][] due = {{40, 0, 120, 900}, {160, 120, 0, 300}, {100, 60, 60, 0}};
        for (int k = 0; k < 3; k++) {
            for (int what = 0; what < 3; what++) {
                x.gives(due[k][what], "sizeOf", 2, 0, what);
            }
            x.gives(due[k][3], "spent");
            x.gives(1, "undo");
        }
        // The third took reach() back.
        x.gives(100, "sizeOf", 2, 0, 0);
        x.gives(0, "sizeOf", 2, 0, 1);
    }

    /** "measure()": from NONE, to ENDLESS and back. */
    private static void measureIsTakenBack() {
        Run x = house("measure()");
        x.done("size", 2, 0, 100);
        x.done("measure", 0, 0, 500);
        x.done("measure", 0, 0, -2);
        x.done("measure", 0, 0, -1);
        x.done("measure", 0, 0, 0);
        int[] fits = {0, 2, 0, 1, 2};
        for (int k = 0; k < 5; k++) {
            x.gives(fits[k], "fits", 0, 2);
            x.gives(1, "undo");
        }
        x.refused(11, "undo");
    }

    /** "hire()": the THING is in its SLOT again, the deposit goes. */
    private static void hireIsTakenBack() {
        for (int[] place : new int[][] {{0, 0}, {0, 39}, {1000, 5}, {1001, 19}}) {
            for (int cents : new int[] {0, 1000000}) {
                Run x = house("hire()");
                x.done("put", place[0], place[1], 2);
                x.done("put", 0, 20, 1);
                x.done("hire", 1, 7);
                x.gives(1, "hire", 2, cents);
                x.gives(7 + cents, "purse");
                x.gives(1, "undo");
                x.gives(7, "purse");
                x.gives(1, "state", 2);
                x.gives(2, "inside", place[0], place[1]);
                x.gives(2, "state", 1);
                x.gives(1, "undo");
                x.gives(0, "purse");
                x.gives(1, "inside", 0, 20);
            }
        }
    }

    /** "back()": the THING is OUT again, what went of the deposit is there again. */
    private static void backIsTakenBack() {
        for (int kept : new int[] {0, 3, 10}) {
            Run x = house("back()");
            x.done("put", 0, 0, 2);
            x.done("hire", 2, 10);
            x.gives(10 - kept, "back", 0, 1000, 5, kept);
            x.gives(kept, "purse");
            x.gives(1, "undo");
            x.gives(10, "purse");
            x.gives(2, "state", 2);
            x.refused(8, "holder", 2);
            x.refused(3, "inside", 1000, 5);
            x.refused(3, "inside", 0, 0);
            x.gives(10 - kept, "back", 0, 1000, 0, kept);
        }
    }

    /** "The latest of put(), take(), size(), reach(), alter(), measure(), hire(), back()": no other call. */
    private static void otherCallsAreNot() {
        Run x = house("other calls");
        x.done("row", 7, 2);
        x.done("write", 3, 0, 70);
        x.done("scene", 9, 90);
        x.done("role", 0, 9);
        x.done("clear");
        x.done("role", 0, 8);
        x.done("share", 0, 1);
        x.done("count", 0);
        x.done("minutes", 2);
        x.done("locks", 0);
        x.refused(11, "undo");
        x.done("put", 0, 0, 2);
        x.done("inside", 0, 0);
        x.done("find", -1, 3);
        x.done("rack", 1);
        x.done("write", 3, 0, 80);
        x.done("scene", 9, 1);
        x.gives(1, "undo");
        x.gives(0, "state", 2);
        x.refused(11, "undo");
        x.gives(8, "value", 3, 0);
        x.gives(1, "scene", 9, 0);
        x.gives(0, "count", 1);
        x.gives(1, "clear");
    }

    /** "that was done": what was refused is passed by. */
    private static void refusedCallsWereNotDone() {
        Run x = house("refused calls");
        x.done("put", 0, 0, 2);
        x.refused(8, "put", 0, 1, 2);
        x.refused(3, "take", 0, 1);
        x.refused(6, "size", 2, 0, 256);
        x.refused(6, "reach", 2, 0, 61, 0);
        x.refused(12, "alter", 2, 0, 0);
        x.refused(6, "measure", 0, 0, -3);
        x.refused(6, "hire", 2, -1);
        x.refused(10, "back", 0, 0, 1, 0);
        x.gives(1, "undo");
        x.gives(0, "state", 2);
        x.refused(11, "undo");
    }

    /** "that was done": also if all is as it was before. */
    private static void whatChangedNothingWasDone() {
        Run x = house("nothing was changed");
        x.done("size", 2, 0, 100);
        x.done("size", 2, 0, 100);
        x.done("reach", 2, 0, 0, 0);
        x.done("alter", 2, 0, 0);
        x.done("measure", 0, 0, -1);
        for (int k = 0; k < 4; k++) {
            x.gives(1, "undo");
            x.gives(100, "sizeOf", 2, 0, 0);
        }
        x.gives(1, "undo");
        x.gives(0, "sizeOf", 2, 0, 0);
        x.refused(11, "undo");
    }

    /** "and is not taken back": undo() goes on to the one before, and is none of these itself. */
    private static void whatIsTakenBackIsNotTakenBackAgain() {
        Run x = house("not again");
        x.done("size", 2, 0, 1);
        x.done("size", 2, 0, 2);
        x.done("size", 2, 0, 3);
        x.gives(1, "undo");
        x.gives(2, "sizeOf", 2, 0, 0);
        x.gives(2, "size", 2, 0, 9);
        x.gives(1, "undo");
        x.gives(2, "sizeOf", 2, 0, 0);
        x.gives(1, "undo");
        x.gives(1, "sizeOf", 2, 0, 0);
        x.gives(1, "undo");
        x.gives(0, "sizeOf", 2, 0, 0);
        x.refused(11, "undo");
    }

    /** "The latest": of different calls on different THINGS. */
    private static void latestGoesFirst() {
        Run x = house("the latest");
        x.done("size", 2, 0, 100);
        x.done("put", 0, 0, 2);
        x.done("measure", 0, 0, 500);
        x.done("hire", 2, 9);
        x.done("put", 0, 0, 1);
        x.done("back", 0, 1000, 0, 9);
        int[][] due = {{1, 1}, {2, 1}, {2, 0}, {1, 0}, {1, 0}, {0, 0}};
        for (int k = 0; k < 6; k++) {
            x.gives(due[k][0], "state", 2);
            x.gives(due[k][1], "state", 1);
            x.gives(1, "undo");
        }
        x.gives(0, "sizeOf", 2, 0, 0);
        x.refused(11, "undo");
    }

    /** "is taken back": that one, and nothing besides. */
    private static void otherThingsStayAsTheyAre() {
        Run x = house("nothing besides");
        x.done("wear", 3);
        x.done("actor");
        x.done("size", 2, 0, 50);
        x.done("size", 3, 0, 60);
        x.done("measure", 0, 0, 250);
        x.done("measure", 1, 0, 300);
        x.done("put", 0, 0, 2);
        x.done("put", 0, 1, 3);
        x.gives(1, "undo");
        x.gives(2, "inside", 0, 0);
        x.gives(1, "fits", 0, 2);
        x.gives(1, "fits", 1, 3);
        x.gives(1, "undo");
        x.gives(1, "undo");
        x.gives(2, "fits", 1, 3);
        x.gives(1, "fits", 0, 2);
    }

    /** "(a HIRE's number is not given again, what is undone of it can't come back)" */
    private static void aHiresNumberIsNotGivenAgain() {
        Run x = house("a HIRE's number");
        x.done("put", 0, 0, 2);
        for (int hire = 0; hire < 5; hire++) {
            x.gives(hire, "hire", 2, 1);
            x.gives(1, "undo");
            for (int gone = 0; gone <= hire; gone++) {
                x.refused(10, "back", gone, 0, 1, 0);
            }
        }
        x.gives(0, "purse");
        x.gives(5, "hire", 2, 1);
        x.gives(0, "back", 5, 0, 1, 1);
    }

    /** Beyond the 512th call answers are free; still no call throws, however much was done or is taken back. */
    private static void moreThanCanBeTakenBack() {
        CostumeStock x = new CostumeStock();
        x.wear(3);
        for (int k = 0; k < 1500; k++) {
            Due.answer("size(0, 0, 1), often", x.size(0, 0, 1) < 0 ? 1 : 0, 0);
        }
        int n = 0;
        while (n < 2000 && x.undo() == 1) {
            n++;
        }
        Due.answer("undo() comes to an end", n < 2000 ? 1 : 0, 1);
        Due.answer("status()", x.status(), 11);
    }

    /** TRUNKS in one another are taken back as they were put, out and back. */
    private static void allThatAreNested() {
        Run x = new Run("38: undo, TRUNKS");
        x.done("rack", 1);
        for (int t = 0; t < 6; t++) {
            x.done("trunk", 1);
            x.done("put", t == 0 ? 0 : 999 + t, 0, t);
        }
        x.gives(6, "count", 0);
        x.done("hire", 3, 1);
        x.done("take", 1000, 0);
        x.done("put", 1005, 0, 1);
        // 0 is on the RACK; 3, OUT, has 4, 5, 1, 2 in it.
        x.gives(4, "count", 1003);
        x.gives(1, "undo");
        x.gives(1, "undo");
        x.gives(3, "count", 0);
        x.gives(1, "undo");
        x.gives(6, "count", 0);
        for (int t = 5; t >= 0; t--) {
            x.gives(1, "undo");
            x.gives(t, "count", 0);
        }
        x.refused(11, "undo");
    }
}
