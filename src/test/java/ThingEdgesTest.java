/** What it is, Terms 1 and promises 1 to 11: a test for each sentence that names a boundary. */
public final class ThingEdgesTest {
    private static final int BIG = Run.BIG;
    private static final int LOW = Run.LOW;
    private static final String[] MAKERS = {"wear", "set", "trunk", "row"};
    private static final int[][] MAKERS_ARGS = {{3}, {}, {1}, {6, 0}};

    public static void main(String[] args) {
        thingsAreTwoHundredAtMost();
        thingsAreNumberedAsTheyAreMade();
        lastOf512CallsIsAnswered();
        halfOf512CallsAreTakenBack();
        kindsAreNine();
        wearIsKindZeroToFour();
        racksAreTwelveAtMost();
        slotsGoFromZeroOn();
        aSlotHasOneThing();
        holdersOfThingsAre1000More();
        statesAreThree();
        newObjectIsEmpty();
        newObjectsShareNothing();
        rackHasOneToForty();
        wearIsMadeOfKindZeroToThree();
        setHasSix();
        trunkHasOneToTwenty();
        rowIsOfKindSixToEight();
        rowHasNoneToForty();
        rowStartsWithZeros();
        bytesKeepEightBits();
        charsKeepSixteenBits();
        floatsAreMinusTwoTo3000();
        minusOneAndTwoAreFloatsAlone();
        placesGoFromZeroToTheLast();
        aRowOfNoneHasNoPlace();
        rowsAreOfThreeKindsAlone();
        noSuchThing();
        holderOfWhatIsInNone();
        Due.end();
    }

    /** "THINGS have numbers from 0 on, as they are made, 200 at most." */
    private static void thingsAreTwoHundredAtMost() {
        int[] kinds = {3, 4, 5, 6};
        for (int m = 0; m < 4; m++) {
            Run x = new Run("THINGS, 200 at most");
            for (int t = 0; t < 199; t++) {
                x.is(t, "wear", t % 4);
            }
            x.gives(199, MAKERS[m], MAKERS_ARGS[m]);
            for (int k = 0; k < 4; k++) {
                x.refused(6, MAKERS[k], MAKERS_ARGS[k]);
            }
            x.gives(kinds[m], "kind", 199);
            x.refused(10, "kind", 200);
            // RACKS and ACTORS are no THINGS: there is room for them.
            x.gives(0, "rack", 1);
            x.gives(0, "actor");
        }
    }

    /** "THINGS have numbers from 0 on, as they are made": RACKS, ACTORS and what is refused take none. */
    private static void thingsAreNumberedAsTheyAreMade() {
        Run x = new Run("THINGS, as they are made");
        x.gives(0, "rack", 1);
        x.gives(0, "trunk", 1);
        x.refused(6, "wear", 4);
        x.refused(6, "trunk", 0);
        x.refused(6, "row", 6, 41);
        x.gives(1, "row", 6, 0);
        x.gives(0, "actor");
        x.gives(2, "set");
        x.gives(1, "rack", 1);
        x.gives(3, "wear", 0);
        // What is taken back was put or told: the THING itself stays.
        x.gives(1, "put", 0, 0, 3);
        x.gives(1, "undo");
        x.gives(4, "wear", 0);
    }

    /** "An object is used for at most 512 calls after it has been made": the 512th is still answered. */
    private static void lastOf512CallsIsAnswered() {
        Run x = new Run("512 calls");
        x.done("wear", 3);
        x.done("actor");
        x.done("size", 0, 0, 100);
        for (int k = 0; k < 506; k++) {
            x.is(1, "measure", 0, 0, k % 2 == 0 ? 500 : 400);
        }
        x.is(0, "fits", 0, 0);
        x.is(1, "undo");
        x.is(1, "fits", 0, 0);
    }

    /** "An object is used for at most 512 calls": all that was done in half of them is taken back. */
    private static void halfOf512CallsAreTakenBack() {
        Run x = new Run("512 calls, half of them undo()");
        x.done("wear", 3);
        x.done("actor");
        for (int k = 0; k < 254; k++) {
            x.is(k, "size", 0, 0, k + 1);
        }
        for (int k = 0; k < 254; k++) {
            x.is(1, "undo");
        }
        x.is(0, "sizeOf", 0, 0, 0);
        x.is(-1, "undo");
    }

    /** "KINDS: 0 DRESS; 1 COAT; 2 UNIFORM (..); 3 MASK; 4 SET; 5 TRUNK; 6 BYTES, 7 FLOATS, 8 CHARS". */
    private static Run oneOfEachKind(String about) {
        Run x = new Run(about);
        for (int kind = 0; kind < 4; kind++) {
            x.gives(kind, "wear", kind);
        }
        x.gives(4, "set");
        x.gives(5, "trunk", 2);
        for (int kind = 6; kind < 9; kind++) {
            x.gives(kind, "row", kind, 2);
        }
        return x;
    }

    /** Promise 9: "A THING's KIND." */
    private static void kindsAreNine() {
        Run x = oneOfEachKind("9: kind");
        for (int kind = 0; kind < 9; kind++) {
            x.gives(kind, "kind", kind);
        }
    }

    /** "WEAR is what is of KIND 0 to 4." */
    private static void wearIsKindZeroToFour() {
        Run x = oneOfEachKind("WEAR");
        x.gives(0, "actor");
        for (int t = 0; t < 5; t++) {
            x.gives(2, "fits", 0, t);
            x.refused(12, "cost", 0, t);
            x.done("minutes", t);
        }
        for (int t = 5; t < 9; t++) {
            x.refused(4, "fits", 0, t);
            x.refused(4, "cost", 0, t);
            x.refused(4, "minutes", t);
        }
    }

    /** "RACKS, numbers from 0 on, 12 at most". */
    private static void racksAreTwelveAtMost() {
        Run x = new Run("RACKS, 12 at most");
        x.refused(1, "count", 0);
        for (int r = 0; r < 12; r++) {
            x.refused(1, "count", r);
            x.gives(r, "rack", 40);
            x.gives(0, "count", r);
        }
        x.refused(6, "rack", 40);
        x.refused(6, "rack", 1);
        x.refused(1, "count", 12);
        x.refused(1, "count", -1);
        // There is room for THINGS all the same.
        x.gives(0, "trunk", 20);
    }

    /** "HOLDERS have SLOTS from 0 on": the first and the last, and those before and behind them. */
    private static void slotsGoFromZeroOn() {
        Run x = new Run("SLOTS from 0 on");
        x.done("rack", 1);
        x.done("rack", 40);
        x.done("set");
        x.done("trunk", 1);
        x.done("trunk", 20);
        x.done("wear", 3);
        int[][] holders = {{0, 1}, {1, 40}, {1000, 6}, {1001, 1}, {1002, 20}};
        for (int[] holder : holders) {
            int h = holder[0];
            int last = holder[1] - 1;
            for (int s : new int[] {-1, LOW, last + 1, BIG}) {
                x.refused(2, "put", h, s, 3);
                x.refused(2, "take", h, s);
                x.refused(2, "inside", h, s);
            }
            for (int s : new int[] {0, last}) {
                x.refused(3, "inside", h, s);
                x.refused(3, "take", h, s);
                x.gives(1, "put", h, s, 3);
                x.gives(3, "inside", h, s);
                x.gives(3, "take", h, s);
            }
        }
    }

    /** "each with one THING or nothing": all SLOTS full, and a THING in one SLOT at a time. */
    private static void aSlotHasOneThing() {
        int[][] holders = {{0, 40}, {1000, 6}, {1001, 20}};
        for (int[] holder : holders) {
            Run x = new Run("one THING or nothing");
            int h = holder[0];
            int n = holder[1];
            x.done("rack", 40);
            x.done("set");
            x.done("trunk", 20);
            for (int s = 0; s < n; s++) {
                x.is(s + 2, "wear", 3);
                x.is(1, "put", h, s, s + 2);
            }
            x.gives(n, "count", h);
            x.is(n + 2, "wear", 3);
            for (int s : new int[] {0, n / 2, n - 1}) {
                x.refused(5, "put", h, s, n + 2);
                x.is(s + 2, "inside", h, s);
            }
            x.refused(8, "put", h, n - 1, 2);
            x.gives(n + 1, "take", h, n - 1);
            x.gives(1, "put", h, n - 1, n + 2);
            x.gives(n, "count", h);
        }
    }

    /** "a SET (6 SLOTS), a TRUNK: their number is 1000 more than their THING's." */
    private static void holdersOfThingsAre1000More() {
        Run x = new Run("1000 more");
        x.done("set");
        for (int t = 1; t < 199; t++) {
            x.done(t % 2 == 0 ? "wear" : "row", t % 2 == 0 ? new int[] {0} : new int[] {8, 1});
        }
        x.done("trunk", 1);
        x.gives(0, "count", 1000);
        x.gives(0, "count", 1199);
        x.gives(1, "put", 1199, 0, 0);
        x.gives(1199, "holder", 0);
        x.gives(1, "put", 1000, 5, 2);
        x.gives(1000, "holder", 2);
        // Behind the last, before the first, WEAR and ROWS: these hold nothing.
        for (int h : new int[] {0, 12, 199, 999, 1001, 1002, 1198, 1200, 2000, -1, -1000, BIG, LOW}) {
            x.refused(1, "count", h);
        }
    }

    /** Promise 10, and "A THING's STATE is 0 AT HAND (as it is made), 1 in a SLOT, 2 OUT on a hire." */
    private static void statesAreThree() {
        Run x = oneOfEachKind("10: state");
        x.gives(0, "rack", 9);
        for (int t = 0; t < 9; t++) {
            x.gives(0, "state", t);
            x.gives(1, "put", 0, t, t);
            x.gives(1, "state", t);
        }
        for (int t = 0; t < 6; t++) {
            x.gives(t, "hire", t, 1);
            x.gives(2, "state", t);
            x.gives(1, "back", t, 0, t, 0);
            x.gives(1, "state", t);
        }
        for (int t = 0; t < 9; t++) {
            x.gives(t, "take", 0, t);
            x.gives(0, "state", t);
        }
    }

    /** Promise 1: "No THINGS, RACKS, ACTORS, ROLES, HIRES; the PURSE is empty; nothing was spent." */
    private static void newObjectIsEmpty() {
        Run x = new Run("1: a new object");
        x.gives(0, "status");
        x.gives(0, "purse");
        x.gives(0, "spent");
        x.gives(0, "clear");
        // 17 goes over the PURSE, what was spent and the LOCKS alone, all 0.
        x.gives(17 * 31 * 31 * 31 * 31, "digest");
        x.locked(0, 0);
        x.refused(10, "kind", 0);
        x.refused(1, "inside", 0, 0);
        x.refused(1, "inside", 1000, 0);
        x.refused(10, "role", 0, 0);
        x.refused(10, "measure", 0, 0, 0);
        x.refused(10, "least", 0, 0);
        x.refused(10, "dressOf", 0);
        x.refused(10, "back", 0, 0, 0, 0);
        x.refused(10, "hire", 0, 0);
        x.refused(11, "undo");
        x.refused(3, "find", -1, 0);
        x.gives(0, "share", 0, 1);
        x.gives(0, "plan");
        x.gives(0, "scene", 0, 0);
    }

    /** Promise 1, for an object that is made while another has all of these. */
    private static void newObjectsShareNothing() {
        Run x = new Run("1: the first object");
        x.done("rack", 2);
        x.done("wear", 3);
        x.done("actor");
        x.done("size", 0, 0, 100);
        x.done("reach", 0, 0, 9, 9);
        x.done("alter", 0, 0, 1);
        x.done("measure", 0, 0, 500);
        x.done("put", 0, 0, 0);
        x.done("role", 0, 0);
        x.done("scene", 0, 9);
        x.done("plan");
        x.done("hire", 0, 7);
        x.refused(6, "rack", 0);
        newObjectIsEmpty();
        x.gives(7, "purse");
        x.gives(2, "state", 0);
        x.gives(1, "clear");
    }

    /** Promise 2: "A RACK with n SLOTS: its number. (6: n is not 1 to 40)" */
    private static void rackHasOneToForty() {
        Run x = new Run("2: rack");
        for (int n : new int[] {0, 41, -1, BIG, LOW}) {
            x.refused(6, "rack", n);
        }
        x.gives(0, "rack", 1);
        x.gives(1, "rack", 40);
        x.gives(2, "rack", 2);
        x.gives(3, "rack", 39);
        int[] slots = {1, 40, 2, 39};
        for (int r = 0; r < 4; r++) {
            x.refused(3, "inside", r, slots[r] - 1);
            x.refused(2, "inside", r, slots[r]);
        }
    }

    /** Promise 3: "A THING of KIND 0 to 3: its number. (6)" */
    private static void wearIsMadeOfKindZeroToThree() {
        Run x = new Run("3: wear");
        for (int kind : new int[] {-1, 4, 5, 6, 8, 9, BIG, LOW}) {
            x.refused(6, "wear", kind);
        }
        x.gives(0, "wear", 3);
        x.gives(1, "wear", 0);
        x.gives(3, "kind", 0);
        x.gives(0, "kind", 1);
    }

    /** Promise 4: "A SET: its THING's number. (6)" - it has 6 SLOTS, all with nothing. */
    private static void setHasSix() {
        Run x = new Run("4: set");
        x.gives(0, "set");
        for (int s = 0; s < 6; s++) {
            x.refused(3, "inside", 1000, s);
        }
        x.refused(2, "inside", 1000, 6);
        x.refused(2, "inside", 1000, -1);
        x.gives(0, "count", 1000);
    }

    /** Promise 5: "A TRUNK with n SLOTS: its THING's number. (6: n is not 1 to 20)" */
    private static void trunkHasOneToTwenty() {
        Run x = new Run("5: trunk");
        for (int n : new int[] {0, 21, -1, 40, BIG, LOW}) {
            x.refused(6, "trunk", n);
        }
        int[] slots = {1, 20, 2, 19};
        for (int t = 0; t < 4; t++) {
            x.gives(t, "trunk", slots[t]);
            x.refused(3, "inside", 1000 + t, slots[t] - 1);
            x.refused(2, "inside", 1000 + t, slots[t]);
        }
    }

    /** Promise 6: "A ROW of KIND 6 to 8". */
    private static void rowIsOfKindSixToEight() {
        Run x = new Run("6: row, KIND");
        for (int kind : new int[] {5, 9, 4, 0, -1, BIG, LOW}) {
            x.refused(6, "row", kind, 1);
        }
        x.gives(0, "row", 6, 1);
        x.gives(1, "row", 8, 1);
    }

    /** Promise 6: "of n values (..) (6: n is not 0 to 40)" */
    private static void rowHasNoneToForty() {
        for (int kind = 6; kind < 9; kind++) {
            Run x = new Run("6: row, n");
            for (int n : new int[] {-1, 41, BIG, LOW}) {
                x.refused(6, "row", kind, n);
            }
            x.gives(0, "row", kind, 0);
            x.gives(1, "row", kind, 40);
            x.gives(2, "row", kind, 1);
            x.refused(2, "value", 0, 0);
            x.gives(0, "value", 1, 39);
            x.refused(2, "value", 1, 40);
            x.gives(0, "value", 2, 0);
            x.refused(2, "value", 2, 1);
        }
    }

    /** Promise 6: "all 0" - of FLOATS too, where 0 is 0 centimetres and not NONE. */
    private static void rowStartsWithZeros() {
        for (int kind = 6; kind < 9; kind++) {
            Run x = new Run("6: row, all 0");
            x.done("row", kind, 40);
            for (int i = 0; i < 40; i++) {
                x.gives(0, "value", 0, i);
            }
        }
    }

    /** Promises 7, 8: "BYTES the lowest eight bits of v"; "BYTES 0 to 255". */
    private static void bytesKeepEightBits() {
        int[][] vs = {{0, 0}, {1, 1}, {127, 127}, {128, 128}, {255, 255}, {256, 0}, {257, 1}, {511, 255}, {512, 0},
            {65535, 255}, {65536, 0}, {-1, 255}, {-2, 254}, {-128, 128}, {-129, 127}, {-255, 1}, {-256, 0}, {-257, 255},
            {BIG, 255}, {BIG - 255, 0}, {LOW, 0}, {LOW + 1, 1}, {LOW + 255, 255}};
        writeAndRead("BYTES", 6, vs);
    }

    /** Promises 7, 8: "CHARS the lowest sixteen"; "CHARS 0 to 65535". */
    private static void charsKeepSixteenBits() {
        int[][] vs = {{0, 0}, {1, 1}, {255, 255}, {256, 256}, {32767, 32767}, {32768, 32768}, {65535, 65535}, {65536, 0},
            {65537, 1}, {131071, 65535}, {-1, 65535}, {-2, 65534}, {-32768, 32768}, {-65535, 1}, {-65536, 0},
            {-65537, 65535}, {BIG, 65535}, {BIG - 65535, 0}, {LOW, 0}, {LOW + 65535, 65535}};
        writeAndRead("CHARS", 8, vs);
    }

    private static void writeAndRead(String about, int kind, int[][] vs) {
        Run x = new Run("7, 8: " + about);
        x.done("row", kind, 3);
        for (int[] v : vs) {
            x.gives(1, "write", 0, 1, v[0]);
            x.gives(v[1], "value", 0, 1);
            // Its neighbours stay as they are.
            x.is(0, "value", 0, 0);
            x.is(0, "value", 0, 2);
        }
    }

    /** Promises 7, 8: "FLOATS tenths: v / 10 in centimetres, -1 NONE, -2 ENDLESS"; "whole centimetres, cut off". */
    private static void floatsAreMinusTwoTo3000() {
        Run x = new Run("7, 8: FLOATS");
        x.done("row", 7, 2);
        int[][] vs = {{0, 0}, {1, 0}, {9, 0}, {10, 1}, {11, 1}, {19, 1}, {20, 2}, {2989, 298}, {2990, 299}, {2999, 299},
            {3000, 300}, {-2, 2147483647}};
        for (int[] v : vs) {
            x.gives(1, "write", 0, 1, v[0]);
            x.gives(v[1], "value", 0, 1);
        }
        for (int v : new int[] {-3, 3001, -256, 65536, BIG, LOW}) {
            x.refused(6, "write", 0, 1, v);
            x.gives(2147483647, "value", 0, 1);
        }
        x.gives(1, "write", 0, 1, -1);
        x.refused(13, "value", 0, 1);
        x.gives(0, "value", 0, 0);
        x.gives(1, "write", 0, 1, 0);
        x.gives(0, "value", 0, 1);
    }

    /** Promise 7: "(.. 6: FLOATS, v is not -2 to 3000)" and Promise 8: "13" are of FLOATS alone. */
    private static void minusOneAndTwoAreFloatsAlone() {
        Run x = new Run("7, 8: no FLOATS");
        x.done("row", 6, 1);
        x.done("row", 8, 1);
        int[][] vs = {{-1, 255, 65535}, {-2, 254, 65534}, {-3, 253, 65533}, {3001, 185, 3001}};
        for (int[] v : vs) {
            for (int t = 0; t < 2; t++) {
                x.gives(1, "write", t, 0, v[0]);
                x.gives(v[1 + t], "value", t, 0);
            }
        }
    }

    /** Promises 7, 8: "Value i of a ROW" - "2 beyond: no such (..) place". */
    private static void placesGoFromZeroToTheLast() {
        for (int kind = 6; kind < 9; kind++) {
            Run x = new Run("7, 8: places");
            x.done("row", kind, 40);
            for (int i : new int[] {-1, 40, 41, BIG, LOW}) {
                x.refused(2, "write", 0, i, 70);
                x.refused(2, "value", 0, i);
            }
            x.gives(1, "write", 0, 0, 70);
            x.gives(1, "write", 0, 39, 90);
            x.gives(kind == 7 ? 7 : 70, "value", 0, 0);
            x.gives(kind == 7 ? 9 : 90, "value", 0, 39);
            x.gives(0, "value", 0, 1);
            x.gives(0, "value", 0, 38);
        }
    }

    /** Promises 7, 8: a ROW of 0 values has no place at all. */
    private static void aRowOfNoneHasNoPlace() {
        for (int kind = 6; kind < 9; kind++) {
            Run x = new Run("7, 8: no values");
            x.done("row", kind, 0);
            for (int i : new int[] {-1, 0, 1}) {
                x.refused(2, "write", 0, i, 1);
                x.refused(2, "value", 0, i);
            }
        }
    }

    /** Promises 7, 8: "(10; 4; ..)" - "6 BYTES, 7 FLOATS, 8 CHARS (these three are ROWS)". */
    private static void rowsAreOfThreeKindsAlone() {
        Run x = oneOfEachKind("7, 8: ROWS");
        for (int t = 0; t < 6; t++) {
            x.refused(4, "write", t, 0, 1);
            x.refused(4, "value", t, 0);
        }
        for (int t = 6; t < 9; t++) {
            x.gives(1, "write", t, 1, 10);
            x.gives(t == 7 ? 1 : 10, "value", t, 1);
        }
    }

    /** "10 no such THING": before the first and behind the last, in each call that names one. */
    private static void noSuchThing() {
        Run x = oneOfEachKind("no such THING");
        x.done("rack", 1);
        x.done("actor");
        x.done("role", 0, 0);
        for (int t : new int[] {-1, 9, 200, 1000, BIG, LOW}) {
            x.refused(10, "write", t, 0, 0);
            x.refused(10, "value", t, 0);
            x.refused(10, "kind", t);
            x.refused(10, "state", t);
            x.refused(10, "holder", t);
            x.refused(10, "put", 0, 0, t);
            x.refused(10, "size", t, 0, 1);
            x.refused(10, "reach", t, 0, 1, 1);
            x.refused(10, "alter", t, 0, 1);
            x.refused(10, "sizeOf", t, 0, 0);
            x.refused(10, "fits", 0, t);
            x.refused(10, "cost", 0, t);
            x.refused(10, "minutes", t);
            x.refused(10, "wash", t);
            x.refused(10, "least", 0, t);
            x.refused(10, "hire", t, 0);
        }
    }

    /** Promise 11: "The HOLDER in which a THING is. (10; 8)" */
    private static void holderOfWhatIsInNone() {
        Run x = new Run("11: holder");
        for (int r = 0; r < 12; r++) {
            x.done("rack", 2);
        }
        x.done("wear", 0);
        x.done("set");
        x.done("trunk", 1);
        x.refused(8, "holder", 0);
        for (int h : new int[] {0, 11, 1001, 1002}) {
            x.done("put", h, 0, 0);
            x.gives(h, "holder", 0);
            x.done("take", h, 0);
            x.refused(8, "holder", 0);
        }
        x.done("put", 11, 1, 0);
        x.done("hire", 0, 0);
        x.refused(8, "holder", 0);
        x.done("back", 0, 0, 0, 0);
        x.gives(0, "holder", 0);
    }
}
