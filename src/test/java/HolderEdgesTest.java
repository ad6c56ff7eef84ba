/** Terms 1 and promises 12 to 14, 36, 37 (put, take, inside, find, count): a test for each sentence that names a boundary. */
public final class HolderEdgesTest {
    private static final int BIG = Run.BIG;
    private static final int LOW = Run.LOW;
    private static final int[] NO_HOLDERS = {-1, 2, 12, 999, 1000, 1001, 1004, 1005, 1199, 1200, BIG, LOW};

    public static void main(String[] args) {
        noSuchHolder();
        contentsGoWithATrunk();
        contentsGoWithASet();
        contentsGoAtAnyDepth();
        setTakesKindsZeroToThree();
        setTakesNoSet();
        trunkAndRackTakeAllKinds();
        trunkIsNotPutIntoItself();
        trunkDoesNotComeBackIntoItself();
        trunksAreSixDeepAtMost();
        trunksComeBackSixDeepAtMost();
        wayUpCountsFromTheSlot();
        longestWayDownCounts();
        sixDeepHoldWhatIsNoTrunk();
        trunksCountAgainAfterTake();
        putTakesWhatIsAtHand();
        takeLeavesNothing();
        insideChangesNothing();
        findGoesByKind();
        findTakesActorMinusOne();
        findWantsAFitOfOne();
        findGoesByRacksAndSlots();
        findSeesTheSetFirst();
        findGoesDownToTheLast();
        findLooksOnRacksAlone();
        findNothing();
        countNothing();
        countAllFull();
        countGoesDownToTheLast();
        countTheWholeHouse();
        Due.end();
    }

    /** "1 no such HOLDER": before the first RACK, behind the last, WEAR and ROWS, before and behind all THINGS. */
    private static void noSuchHolder() {
        Run x = new Run("no such HOLDER");
        x.done("rack", 1);
        x.done("rack", 1);
        x.done("wear", 0);
        x.done("row", 6, 9);
        x.done("set");
        x.done("trunk", 1);
        x.done("row", 8, 0);
        x.done("put", 0, 0, 0);
        x.done("hire", 0, 5);
        for (int h : NO_HOLDERS) {
            x.refused(1, "put", h, 0, 1);
            x.refused(1, "take", h, 0);
            x.refused(1, "inside", h, 0);
            x.refused(1, "back", 0, h, 0, 0);
            x.refused(1, "count", h);
        }
        for (int h : new int[] {0, 1, 1002, 1003}) {
            x.gives(0, "count", h);
        }
    }

    /** "What is in a SET or TRUNK goes with it." - a TRUNK: into a SLOT, out of it, OUT and back. */
    private static void contentsGoWithATrunk() {
        contentsGoWith("trunk", new int[] {1});
    }

    /** "What is in a SET or TRUNK goes with it." - a SET. */
    private static void contentsGoWithASet() {
        contentsGoWith("set", new int[0]);
    }

    private static void contentsGoWith(String maker, int[] args) {
        Run x = new Run("goes with a " + maker);
        x.done("rack", 1);
        x.done("rack", 1);
        x.done(maker, args);
        x.done("wear", 2);
        x.done("put", 1000, 0, 1);
        x.gives(0, "count", 0);
        x.refused(3, "find", -1, 2);
        x.done("put", 0, 0, 0);
        x.gives(2, "count", 0);
        x.gives(1, "find", -1, 2);
        x.done("take", 0, 0);
        x.gives(0, "count", 0);
        x.gives(1, "count", 1000);
        x.done("put", 1, 0, 0);
        x.gives(2, "count", 1);
        x.done("hire", 0, 3);
        x.gives(0, "count", 1);
        x.refused(3, "find", -1, 2);
        // It is still in its SLOT there.
        x.gives(1, "state", 1);
        x.gives(1000, "holder", 1);
        x.gives(1, "inside", 1000, 0);
        x.done("back", 0, 0, 0, 3);
        x.gives(2, "count", 0);
        x.gives(1, "find", -1, 2);
        x.done("undo");
        x.gives(0, "count", 0);
        x.gives(1, "inside", 1000, 0);
    }

    /** "What is in a SET or TRUNK goes with it." - a MASK in a SET in the sixth TRUNK. */
    private static void contentsGoAtAnyDepth() {
        Run x = new Run("goes with it, six deep");
        x.done("rack", 1);
        x.done("rack", 1);
        int top = chain(x, 6, -1);
        int set = x.done("set");
        int mask = x.done("wear", 3);
        x.done("put", 1000 + set, 5, mask);
        x.done("put", 1000 + top + 5, 0, set);
        x.done("put", 0, 0, top);
        x.gives(8, "count", 0);
        x.gives(mask, "find", -1, 3);
        x.done("take", 0, 0);
        x.done("put", 1, 0, top);
        x.gives(0, "count", 0);
        x.gives(8, "count", 1);
        x.gives(1000 + set, "holder", mask);
        x.gives(1000 + top + 5, "holder", set);
    }

    /** "A SET's SLOTS take KINDS 0 to 3 alone." */
    private static void setTakesKindsZeroToThree() {
        for (int s = 0; s < 6; s++) {
            Run x = new Run("a SET's SLOTS");
            x.done("set");
            for (int kind = 0; kind < 4; kind++) {
                int t = x.done("wear", kind);
                x.gives(1, "put", 1000, s, t);
                x.done("take", 1000, s);
            }
            x.refused(4, "put", 1000, s, x.done("set"));
            x.refused(4, "put", 1000, s, x.done("trunk", 1));
            for (int kind = 6; kind < 9; kind++) {
                x.refused(4, "put", 1000, s, x.done("row", kind, 1));
            }
        }
    }

    /** "A SET's SLOTS take KINDS 0 to 3 alone." - so it does not take itself, at no STATE. */
    private static void setTakesNoSet() {
        Run x = new Run("a SET in itself");
        x.done("rack", 1);
        x.done("set");
        x.refused(4, "put", 1000, 0, 0);
        x.done("put", 0, 0, 0);
        x.refused(8, "put", 1000, 0, 0);
        x.done("hire", 0, 0);
        x.refused(4, "back", 0, 1000, 0, 0);
        x.gives(0, "back", 0, 0, 0, 0);
    }

    /** "racks and trunks whose slots hold anything of the house or nothing" */
    private static void trunkAndRackTakeAllKinds() {
        Run x = new Run("RACKS and TRUNKS take all");
        x.done("rack", 1);
        x.done("trunk", 1);
        for (int kind = 0; kind < 4; kind++) {
            x.done("wear", kind);
        }
        x.done("set");
        x.done("trunk", 1);
        for (int kind = 6; kind < 9; kind++) {
            x.done("row", kind, 0);
        }
        for (int h : new int[] {0, 1000}) {
            for (int t = 1; t < 10; t++) {
                x.gives(1, "put", h, 0, t);
                x.gives(t, "take", h, 0);
            }
        }
    }

    /** TRUNKS with two SLOTS, each in SLOT 0 of the one before; the first is put nowhere if h is -1. */
    private static int chain(Run x, int n, int h) {
        int top = x.done("trunk", 2);
        if (h >= 0) {
            x.done("put", h, 0, top);
        }
        for (int k = 1; k < n; k++) {
            int t = x.done("trunk", 2);
            x.done("put", 999 + t, 0, t);
        }
        return top;
    }

    /** "A TRUNK stands in itself at no depth: what goes into a SLOT of a TRUNK is not this TRUNK, nor has it in it." */
    private static void trunkIsNotPutIntoItself() {
        for (int n = 1; n <= 6; n++) {
            Run x = new Run("a TRUNK in itself, of " + n);
            int top = chain(x, n, -1);
            for (int k = 0; k < n; k++) {
                x.refused(9, "put", 1000 + top + k, 1, top);
            }
            x.gives(0, "state", top);
            // Another TRUNK with nothing in it may be there, if it is not the seventh.
            int other = x.done("trunk", 2);
            if (n < 6) {
                x.gives(1, "put", 1000 + top + n - 1, 1, other);
            } else {
                x.refused(9, "put", 1000 + top + n - 1, 1, other);
            }
        }
    }

    /** "A TRUNK stands in itself at no depth", for back(): "4, 9: as put()". */
    private static void trunkDoesNotComeBackIntoItself() {
        for (int n = 1; n <= 6; n++) {
            Run x = new Run("a TRUNK back in itself, of " + n);
            x.done("rack", 1);
            int top = chain(x, n, 0);
            x.done("hire", top, 8);
            for (int k = 0; k < n; k++) {
                x.refused(9, "back", 0, 1000 + top + k, 1, 0);
            }
            x.gives(2, "state", top);
            x.gives(8, "back", 0, 0, 0, 0);
        }
    }

    /** "there are no more than 6 TRUNKS in all (the one it is put into, and itself, counted)": put(). */
    private static void trunksAreSixDeepAtMost() {
        for (int up = 1; up <= 6; up++) {
            for (int down = 1; down <= 6; down++) {
                for (String where : new String[] {"at hand", "on a rack", "out"}) {
                    Run x = new Run(down + " TRUNKS put into " + up + ", " + where);
                    int innermost = upperChain(x, up, where);
                    int lower = chain(x, down, -1);
                    if (up + down <= 6) {
                        x.gives(1, "put", innermost, 1, lower);
                        x.gives(innermost, "holder", lower);
                    } else {
                        x.refused(9, "put", innermost, 1, lower);
                    }
                }
            }
        }
    }

    /** The same for back(): "4, 9: as put()". */
    private static void trunksComeBackSixDeepAtMost() {
        for (int up = 0; up <= 6; up++) {
            for (int down = 1; down <= 6; down++) {
                Run x = new Run(down + " TRUNKS back into " + up);
                x.done("rack", 2);
                x.done("rack", 2);
                int innermost = up == 0 ? 1 : 1000 + chain(x, up, 0) + up - 1;
                int lower = chain(x, down, 1);
                x.done("hire", lower, 4);
                if (up + down <= 6) {
                    x.gives(3, "back", 0, innermost, 1, 1);
                    x.gives(innermost, "holder", lower);
                } else {
                    x.refused(9, "back", 0, innermost, 1, 1);
                }
            }
        }
    }

    private static int upperChain(Run x, int n, String where) {
        x.done("rack", 1);
        int top = chain(x, n, where.equals("at hand") ? -1 : 0);
        if (where.equals("out")) {
            x.done("hire", top, 0);
        }
        return 1000 + top + n - 1;
    }

    /** "on the way from a SLOT up": what is beside or below that SLOT does not count. */
    private static void wayUpCountsFromTheSlot() {
        for (int level = 1; level <= 6; level++) {
            Run x = new Run("into level " + level + " of six");
            x.done("rack", 1);
            int top = chain(x, 6, 0);
            int fits = 6 - level;
            int tooMany = chain(x, fits + 1, -1);
            x.refused(9, "put", 999 + top + level, 1, tooMany);
            if (fits > 0) {
                x.gives(1, "put", 999 + top + level, 1, chain(x, fits, -1));
            }
        }
    }

    /** "on the longest way down in what is put there": a short way before and behind a long one. */
    private static void longestWayDownCounts() {
        for (int slot = 0; slot < 3; slot++) {
            Run x = new Run("the longest way down stands in SLOT " + slot);
            int two = chain(x, 2, -1);
            int three = chain(x, 3, -1);
            int root = x.done("trunk", 3);
            for (int s = 0; s < 3; s++) {
                int branch = s == slot ? chain(x, 3, -1) : chain(x, 1, -1);
                x.done("put", 1000 + root, s, branch);
            }
            // From the root it is 4 down, however the SLOTS stand.
            x.refused(9, "put", 1000 + three + 2, 0, root);
            x.gives(1, "put", 1000 + two + 1, 0, root);
        }
    }

    /** "no more than 6 TRUNKS in all": what is no TRUNK goes into the sixth. */
    private static void sixDeepHoldWhatIsNoTrunk() {
        Run x = new Run("in the sixth TRUNK");
        x.done("rack", 1);
        int sixth = 1000 + chain(x, 6, 0) + 5;
        int set = x.done("set");
        int mask = x.done("wear", 3);
        x.gives(1, "put", sixth, 0, set);
        x.gives(1, "put", 1000 + set, 0, mask);
        x.gives(1, "put", sixth, 1, x.done("row", 6, 1));
        x.gives(9, "count", 0);
        x.done("take", sixth, 0);
        x.refused(9, "put", sixth, 0, x.done("trunk", 1));
        x.gives(1, "put", sixth, 0, set);
    }

    /** "TRUNKS stand in one another 6 deep at most": as they stand now, not as they stood. */
    private static void trunksCountAgainAfterTake() {
        Run x = new Run("one is taken out");
        x.done("rack", 1);
        int top = chain(x, 6, 0);
        int other = x.done("trunk", 1);
        x.refused(9, "put", 1000 + top + 5, 0, other);
        x.gives(top + 3, "take", 1000 + top + 2, 0);
        // Three are on the rack now, three at hand.
        x.gives(1, "put", 1000 + top + 5, 0, other);
        x.refused(9, "put", 1000 + top + 2, 0, top + 3);
        x.gives(1, "put", 1000 + top + 1, 1, top + 3);
        x.gives(1, "undo");
        x.gives(1, "undo");
        x.gives(1, "put", 1000 + top + 2, 0, top + 3);
    }

    /** Promise 12: "A THING AT HAND comes into a SLOT: 1." - not one in a SLOT, not one that is OUT. */
    private static void putTakesWhatIsAtHand() {
        Run x = new Run("12: put");
        x.done("rack", 3);
        x.done("wear", 3);
        x.gives(1, "put", 0, 0, 0);
        x.refused(8, "put", 0, 1, 0);
        x.refused(8, "put", 0, 0, 0);
        x.done("hire", 0, 1);
        x.refused(8, "put", 0, 0, 0);
        x.done("back", 0, 0, 2, 0);
        x.refused(8, "put", 0, 0, 0);
        x.done("take", 0, 2);
        x.gives(1, "put", 0, 0, 0);
        x.gives(0, "inside", 0, 0);
        x.gives(1, "state", 0);
    }

    /** Promise 13: "What is in a SLOT is AT HAND: its number. (1; 2; 3)" */
    private static void takeLeavesNothing() {
        Run x = new Run("13: take");
        x.done("rack", 2);
        x.done("wear", 3);
        x.done("wear", 3);
        x.refused(3, "take", 0, 0);
        x.done("put", 0, 0, 1);
        x.done("put", 0, 1, 0);
        x.gives(1, "take", 0, 0);
        x.refused(3, "take", 0, 0);
        x.gives(0, "state", 1);
        x.gives(0, "inside", 0, 1);
        x.done("hire", 0, 0);
        x.refused(3, "take", 0, 1);
    }

    /** Promise 14: "The THING in a SLOT. (1; 2; 3)" */
    private static void insideChangesNothing() {
        Run x = new Run("14: inside");
        x.done("rack", 2);
        x.done("wear", 3);
        x.refused(3, "inside", 0, 1);
        x.done("put", 0, 1, 0);
        x.gives(0, "inside", 0, 1);
        x.gives(0, "inside", 0, 1);
        x.gives(1, "state", 0);
        x.refused(3, "inside", 0, 0);
        x.refused(2, "inside", 0, 2);
        x.refused(2, "inside", 0, -1);
    }

    /** Promise 36: "WEAR that is of a KIND 0 to 4 (a COAT is a DRESS, a UNIFORM both)". */
    private static void findGoesByKind() {
        int[][] kindsOf = {{0}, {0, 1}, {0, 1, 2}, {3}, {4}, {}, {}, {}, {}};
        for (int has = 0; has < 9; has++) {
            Run x = new Run("36: find, KIND " + has + " is there");
            x.done("rack", 1);
            String maker = has < 4 ? "wear" : has == 4 ? "set" : has == 5 ? "trunk" : "row";
            x.done(maker, has < 4 ? new int[] {has} : has == 4 ? new int[0] : has == 5 ? new int[] {1} : new int[] {has, 1});
            x.done("put", 0, 0, 0);
            for (int kind = 0; kind < 5; kind++) {
                boolean isIt = false;
                for (int k : kindsOf[has]) {
                    isIt = isIt || k == kind;
                }
                if (isIt) {
                    x.gives(0, "find", -1, kind);
                } else {
                    x.refused(3, "find", -1, kind);
                }
            }
            for (int kind : new int[] {-1, 5, 6, 8, BIG, LOW}) {
                x.refused(6, "find", -1, kind);
            }
        }
    }

    /** Promise 36: "or any for ACTOR -1" - "(10: ACTOR; ..)" for -2, and behind the last. */
    private static void findTakesActorMinusOne() {
        Run x = new Run("36: find, ACTOR");
        x.done("rack", 1);
        x.done("wear", 3);
        x.done("put", 0, 0, 0);
        x.gives(0, "find", -1, 3);
        x.refused(10, "find", 0, 3);
        x.done("actor");
        x.refused(3, "find", 0, 3);
        for (int a : new int[] {-2, 1, 39, 40, BIG, LOW}) {
            x.refused(10, "find", a, 3);
        }
        for (int a = 1; a < 40; a++) {
            x.is(a, "actor");
        }
        x.refused(3, "find", 39, 3);
        x.refused(10, "find", 40, 3);
    }

    /** Promise 36: "and FITS an ACTOR (1)" - 0 and 2 are passed by. */
    private static void findWantsAFitOfOne() {
        Run x = new Run("36: find, FITS");
        x.done("rack", 3);
        x.done("actor");
        x.done("measure", 0, 0, 500);
        for (int t = 0; t < 3; t++) {
            x.done("wear", 3);
            x.done("put", 0, t, t);
        }
        x.done("size", 0, 0, 101);
        x.refused(3, "find", 0, 3);
        x.done("size", 2, 0, 100);
        x.gives(0, "fits", 0, 0);
        x.gives(2, "fits", 0, 1);
        x.gives(1, "fits", 0, 2);
        x.gives(2, "find", 0, 3);
        x.gives(0, "find", -1, 3);
        x.done("size", 1, 0, 100);
        x.gives(1, "find", 0, 3);
        x.done("reach", 0, 0, 1, 0);
        x.gives(0, "find", 0, 3);
    }

    /** Promise 36: "RACKS in order, their SLOTS in order" - by numbers of RACKS and SLOTS, not of THINGS. */
    private static void findGoesByRacksAndSlots() {
        Run x = new Run("36: find, in order");
        for (int r = 0; r < 12; r++) {
            x.done("rack", 40);
        }
        for (int t = 0; t < 4; t++) {
            x.done("wear", 3);
        }
        x.done("put", 11, 39, 0);
        x.gives(0, "find", -1, 3);
        x.done("put", 11, 0, 1);
        x.gives(1, "find", -1, 3);
        x.done("put", 0, 39, 2);
        x.gives(2, "find", -1, 3);
        x.done("put", 0, 0, 3);
        x.gives(3, "find", -1, 3);
    }

    /** Promise 36: "a SET (itself first) and a TRUNK are gone into, where they stand." */
    private static void findSeesTheSetFirst() {
        Run x = new Run("36: find, SET and TRUNK");
        x.done("rack", 4);
        x.done("set");
        x.done("trunk", 2);
        x.done("wear", 2);
        x.done("wear", 2);
        x.done("wear", 2);
        x.done("put", 0, 3, 2);
        x.gives(2, "find", -1, 0);
        x.done("put", 1001, 1, 3);
        x.done("put", 0, 2, 1);
        x.gives(3, "find", -1, 0);
        x.done("put", 0, 1, 0);
        // Nothing is in the SET: it is found itself, and passed by for its WEAR.
        x.gives(0, "find", -1, 4);
        x.gives(3, "find", -1, 0);
        x.done("put", 1000, 5, 4);
        x.gives(0, "find", -1, 4);
        x.gives(4, "find", -1, 0);
        x.done("take", 0, 1);
        x.done("put", 1001, 0, 0);
        x.gives(0, "find", -1, 4);
        x.gives(4, "find", -1, 0);
        // An OPEN SET does not FIT, nor does what is in it.
        x.done("actor");
        x.refused(3, "find", 0, 4);
        x.refused(3, "find", 0, 0);
    }

    /** Promise 36: "are gone into" - to the last SLOT of a SET in the sixth TRUNK in the last RACK. */
    private static void findGoesDownToTheLast() {
        Run x = new Run("36: find, the last");
        for (int r = 0; r < 12; r++) {
            x.done("rack", 40);
        }
        int holder = 11;
        for (int k = 0; k < 6; k++) {
            int trunk = x.done("trunk", 20);
            x.done("put", holder, k == 0 ? 39 : 19, trunk);
            holder = 1000 + trunk;
        }
        int set = x.done("set");
        int mask = x.done("wear", 3);
        x.done("put", holder, 19, set);
        x.refused(3, "find", -1, 3);
        x.done("put", 1000 + set, 5, mask);
        x.gives(mask, "find", -1, 3);
        x.gives(set, "find", -1, 4);
        x.gives(8, "count", 11);
    }

    /** Promise 36: "RACKS in order (..) are gone into, where they stand": what is on no RACK is not found. */
    private static void findLooksOnRacksAlone() {
        Run x = new Run("36: find, on RACKS");
        x.done("rack", 2);
        x.done("trunk", 1);
        x.done("wear", 3);
        x.refused(3, "find", -1, 3);
        x.done("put", 1000, 0, 1);
        x.refused(3, "find", -1, 3);
        x.done("put", 0, 1, 0);
        x.gives(1, "find", -1, 3);
        x.done("hire", 1, 0);
        x.refused(3, "find", -1, 3);
        x.done("back", 0, 1000, 0, 0);
        x.done("hire", 0, 0);
        x.refused(3, "find", -1, 3);
    }

    /** Promise 36: "(.. 3: there is none)" - no RACKS, RACKS with nothing, RACKS with other THINGS. */
    private static void findNothing() {
        Run x = new Run("36: find, none");
        for (int kind = 0; kind < 5; kind++) {
            x.refused(3, "find", -1, kind);
        }
        x.done("rack", 40);
        x.refused(3, "find", -1, 0);
        x.done("row", 7, 3);
        x.done("trunk", 20);
        x.done("put", 0, 0, 0);
        x.done("put", 0, 1, 1);
        for (int kind = 0; kind < 5; kind++) {
            x.refused(3, "find", -1, kind);
        }
    }

    /** Promise 37: "How many THINGS are in a HOLDER" - nothing there. */
    private static void countNothing() {
        Run x = new Run("37: count, nothing");
        x.done("rack", 1);
        x.done("set");
        x.done("trunk", 1);
        for (int h : new int[] {0, 1000, 1001}) {
            x.gives(0, "count", h);
        }
        x.done("put", 0, 0, 1);
        x.gives(1, "count", 0);
        x.gives(0, "count", 1001);
        x.done("take", 0, 0);
        x.gives(0, "count", 0);
    }

    /** Promise 37: "and in what is in it" - a TRUNK of 20, all SETS, each of 6. */
    private static void countAllFull() {
        Run x = new Run("37: count, full");
        x.done("rack", 1);
        x.done("trunk", 20);
        x.done("put", 0, 0, 0);
        for (int s = 0; s < 20; s++) {
            int set = x.done("set");
            x.done("put", 1000, s, set);
            for (int k = 0; k < 6; k++) {
                x.done("put", 1000 + set, k, x.done("wear", 3));
            }
        }
        x.gives(20 * 7, "count", 1000);
        x.gives(20 * 7 + 1, "count", 0);
        x.gives(6, "count", 1001);
    }

    /** Promise 37: "and in what is in it" - six TRUNKS and a SET down. */
    private static void countGoesDownToTheLast() {
        Run x = new Run("37: count, six deep");
        x.done("rack", 1);
        int top = chain(x, 6, 0);
        int set = x.done("set");
        x.done("put", 1000 + top + 5, 1, set);
        x.done("put", 1000 + set, 0, x.done("wear", 3));
        x.gives(8, "count", 0);
        for (int k = 0; k < 6; k++) {
            x.gives(7 - k, "count", 1000 + top + k);
        }
        x.gives(1, "count", 1000 + set);
    }

    /** Promise 37 with all 200 THINGS in SLOTS of the 12 RACKS. */
    private static void countTheWholeHouse() {
        Run x = new Run("37: count, the whole house");
        for (int r = 0; r < 12; r++) {
            x.done("rack", 17);
        }
        for (int t = 0; t < 200; t++) {
            x.is(t, "wear", 3);
            x.is(1, "put", t / 17, t % 17, t);
        }
        for (int r = 0; r < 11; r++) {
            x.gives(17, "count", r);
        }
        x.gives(200 - 11 * 17, "count", 11);
    }
}
