/** Promises 12 to 14, 36 and 37: put, take, inside; find, count. */
public final class HoldersTest {
    private static final int BIG = Integer.MAX_VALUE;
    private static final int LOW = Integer.MIN_VALUE;

    public static void main(String[] args) {
        putAndTake();
        noSuchHolder();
        putRefused();
        putRefusedFirst();
        setsTakeWearAlone();
        trunkInItself();
        trunksSixDeep();
        trunksSixDeepFromBelow();
        takeAndInsideRefused();
        whatIsInsideGoesWithIt();
        findByKind();
        findInOrder();
        findByFit();
        findRefused();
        counts();
        Due.end();
    }

    private static void putAndTake() {
        CostumeStock x = new CostumeStock();
        x.rack(2);
        x.wear(3);
        x.row(7, 4);
        Due.done(x, "12: put(0, 1, 0)", x.put(0, 1, 0), 1);
        Due.done(x, "12: put(0, 0, 1), a row", x.put(0, 0, 1), 1);
        Due.done(x, "14: inside(0, 1)", x.inside(0, 1), 0);
        Due.done(x, "14: inside(0, 0)", x.inside(0, 0), 1);
        Due.done(x, "13: take(0, 0)", x.take(0, 0), 1);
        Due.done(x, "13: state(1)", x.state(1), 0);
        Due.refused(x, "14: inside(0, 0), taken", x.inside(0, 0), 3);
        Due.refused(x, "13: take(0, 0), taken", x.take(0, 0), 3);
        Due.done(x, "14: inside(0, 1)", x.inside(0, 1), 0);
        Due.done(x, "12: put(0, 0, 1) again", x.put(0, 0, 1), 1);
        Due.done(x, "13: take(0, 1)", x.take(0, 1), 0);
    }

    private static void noSuchHolder() {
        CostumeStock x = new CostumeStock();
        x.rack(2);
        x.rack(2);
        x.wear(0);
        x.trunk(2);
        x.row(6, 2);
        // 1000 is a DRESS and 1002 a ROW: they hold nothing; 1003 does not exist.
        for (int h : new int[] {2, -1, 12, 999, 1000, 1002, 1003, 2000, BIG, LOW}) {
            Due.refused(x, "12: put(" + h + ", 0, 0)", x.put(h, 0, 0), 1);
            Due.refused(x, "13: take(" + h + ", 0)", x.take(h, 0), 1);
            Due.refused(x, "14: inside(" + h + ", 0)", x.inside(h, 0), 1);
            Due.refused(x, "37: count(" + h + ")", x.count(h), 1);
        }
        for (int h : new int[] {0, 1, 1001}) {
            Due.done(x, "12: put(" + h + ", 0, 0)", x.put(h, 0, 0), 1);
            Due.done(x, "13: take(" + h + ", 0)", x.take(h, 0), 0);
        }
    }

    private static void putRefused() {
        CostumeStock x = new CostumeStock();
        x.rack(2);
        x.wear(0);
        x.wear(1);
        x.wear(2);
        for (int t : new int[] {3, -1, BIG, LOW}) {
            Due.refused(x, "12: put(0, 0, " + t + ")", x.put(0, 0, t), 10);
        }
        for (int s : new int[] {2, -1, BIG, LOW}) {
            Due.refused(x, "12: put(0, " + s + ", 0)", x.put(0, s, 0), 2);
        }
        x.put(0, 0, 0);
        Due.refused(x, "12: put(0, 1, 0), in a slot", x.put(0, 1, 0), 8);
        Due.refused(x, "12: put(0, 0, 1), taken", x.put(0, 0, 1), 5);
        x.put(0, 1, 1);
        x.hire(1, 0);
        Due.refused(x, "12: put(0, 1, 1), out", x.put(0, 1, 1), 8);
        Due.done(x, "12: state(1) stays", x.state(1), 2);
        Due.done(x, "12: inside(0, 0) stays", x.inside(0, 0), 0);
        Due.done(x, "12: state(2) stays", x.state(2), 0);
    }

    private static void putRefusedFirst() {
        CostumeStock x = new CostumeStock();
        x.rack(2);
        x.set();
        x.wear(0);
        x.trunk(1);
        x.trunk(1);
        x.put(1000, 0, 1);
        x.put(0, 0, 3);
        Due.refused(x, "12: 1 ahead of 10", x.put(7, 9, 99), 1);
        Due.refused(x, "12: 10 ahead of 2", x.put(0, 9, 99), 10);
        Due.refused(x, "12: 2 ahead of 8", x.put(0, 9, 1), 2);
        Due.refused(x, "12: 8 ahead of 5", x.put(0, 0, 1), 8);
        Due.refused(x, "12: 8 ahead of 4", x.put(1000, 1, 3), 8);
        Due.refused(x, "12: 5 ahead of 4", x.put(1000, 0, 2), 5);
        Due.refused(x, "12: 4", x.put(1000, 1, 2), 4);
        x.take(0, 0);
        x.put(1003, 0, 0);
        x.take(1000, 0);
        x.put(1002, 0, 1);
        Due.refused(x, "12: 2 ahead of 9", x.put(1002, 1, 2), 2);
        Due.refused(x, "12: 5 ahead of 9", x.put(1002, 0, 2), 5);
    }

    private static void setsTakeWearAlone() {
        CostumeStock x = new CostumeStock();
        x.set();
        x.set();
        x.trunk(1);
        x.row(6, 1);
        x.row(7, 1);
        x.row(8, 1);
        for (int t = 0; t < 6; t++) {
            Due.refused(x, "12: put(1000, 0, " + t + ")", x.put(1000, 0, t), 4);
        }
        for (int kind = 0; kind < 4; kind++) {
            int t = x.wear(kind);
            Due.done(x, "12: put(1000, " + kind + ", " + t + ")", x.put(1000, kind, t), 1);
        }
        // A TRUNK and a RACK take all of them, a SET too.
        Due.done(x, "12: put(1002, 0, 0)", x.put(1002, 0, 0), 1);
        x.rack(5);
        for (int t = 1; t < 6; t++) {
            Due.done(x, "12: put(0, .., " + t + ")", x.put(0, t - 1, t), 1);
        }
    }

    private static void trunkInItself() {
        CostumeStock x = new CostumeStock();
        x.trunk(2);
        x.trunk(2);
        x.trunk(2);
        Due.refused(x, "12: put(1000, 0, 0)", x.put(1000, 0, 0), 9);
        Due.done(x, "12: put(1000, 0, 1)", x.put(1000, 0, 1), 1);
        Due.refused(x, "12: put(1001, 0, 0)", x.put(1001, 0, 0), 9);
        Due.done(x, "12: put(1001, 0, 2)", x.put(1001, 0, 2), 1);
        Due.refused(x, "12: put(1002, 0, 0)", x.put(1002, 0, 0), 9);
        Due.done(x, "12: state(0) stays", x.state(0), 0);
        // Out of it, it may be the other way round.
        x.take(1000, 0);
        Due.done(x, "12: put(1002, 0, 0)", x.put(1002, 0, 0), 1);
    }

    private static void trunksSixDeep() {
        CostumeStock x = new CostumeStock();
        x.rack(1);
        for (int t = 0; t < 7; t++) {
            x.trunk(3);
        }
        x.put(0, 0, 0);
        for (int t = 1; t < 6; t++) {
            Due.done(x, "12: put() of trunk " + t, x.put(999 + t, 0, t), 1);
        }
        Due.refused(x, "12: put() of the seventh trunk", x.put(1005, 0, 6), 9);
        int set = x.set();
        int mask = x.wear(3);
        int row = x.row(6, 1);
        // What is no TRUNK goes into the sixth.
        Due.done(x, "12: put() of a set", x.put(1005, 0, set), 1);
        Due.done(x, "12: put() of a mask into it", x.put(1000 + set, 0, mask), 1);
        Due.done(x, "12: put() of a row", x.put(1005, 1, row), 1);
        Due.done(x, "12: put() into the fifth", x.put(1004, 1, 6), 1);
        Due.done(x, "37: count(0)", x.count(0), 10);
        Due.done(x, "36: find(-1, 3), eight holders down", x.find(-1, 3), mask);
    }

    private static void trunksSixDeepFromBelow() {
        CostumeStock x = new CostumeStock();
        for (int t = 0; t < 8; t++) {
            x.trunk(3);
        }
        // 3 in 2 in 1, beside it 4; the longest way down counts.
        x.put(1002, 0, 3);
        x.put(1001, 2, 2);
        x.put(1001, 0, 4);
        x.put(1005, 0, 6);
        x.put(1006, 0, 7);
        x.put(1000, 0, 5);
        Due.refused(x, "12: three into the fourth", x.put(1007, 0, 1), 9);
        x.take(1000, 0);
        Due.done(x, "12: three into the third", x.put(1007, 0, 1), 1);
        Due.refused(x, "12: six into one", x.put(1000, 0, 5), 9);
        x.rack(1);
        Due.done(x, "12: six into a rack", x.put(0, 0, 5), 1);
        Due.refused(x, "12: one into the sixth", x.put(1003, 0, 0), 9);
        Due.done(x, "12: one into the fifth", x.put(1004, 0, 0), 1);
    }

    private static void takeAndInsideRefused() {
        CostumeStock x = new CostumeStock();
        x.rack(2);
        x.set();
        for (int s : new int[] {2, -1, BIG, LOW}) {
            Due.refused(x, "13: take(0, " + s + ")", x.take(0, s), 2);
            Due.refused(x, "14: inside(0, " + s + ")", x.inside(0, s), 2);
        }
        Due.refused(x, "13: 1 ahead of 2", x.take(5, 77), 1);
        Due.refused(x, "14: 1 ahead of 2", x.inside(5, 77), 1);
        Due.refused(x, "13: take(1000, 5)", x.take(1000, 5), 3);
        Due.refused(x, "13: take(1000, 6)", x.take(1000, 6), 2);
        Due.refused(x, "14: inside(0, 1)", x.inside(0, 1), 3);
    }

    private static void whatIsInsideGoesWithIt() {
        CostumeStock x = new CostumeStock();
        x.rack(1);
        x.rack(1);
        x.trunk(1);
        x.set();
        x.wear(2);
        x.put(1001, 4, 2);
        x.put(1000, 0, 1);
        x.put(0, 0, 0);
        Due.done(x, "37: count(0)", x.count(0), 3);
        Due.done(x, "13: take(0, 0)", x.take(0, 0), 0);
        Due.done(x, "37: count(0)", x.count(0), 0);
        Due.done(x, "37: count(1000)", x.count(1000), 2);
        Due.done(x, "10: state(2)", x.state(2), 1);
        x.put(1, 0, 0);
        Due.done(x, "37: count(1)", x.count(1), 3);
        Due.done(x, "14: inside(1001, 4)", x.inside(1001, 4), 2);
        // One can reach into what is out.
        x.hire(0, 1);
        Due.done(x, "13: take(1001, 4), out", x.take(1001, 4), 2);
        Due.done(x, "12: put(1001, 0, 2), out", x.put(1001, 0, 2), 1);
        Due.done(x, "37: count(1000), out", x.count(1000), 2);
        Due.refused(x, "36: find(-1, 2), out", x.find(-1, 2), 3);
    }

    private static void findByKind() {
        CostumeStock x = new CostumeStock();
        x.rack(9);
        for (int kind = 0; kind < 4; kind++) {
            x.wear(kind);
        }
        x.set();
        x.trunk(1);
        x.row(6, 1);
        x.row(7, 1);
        x.row(8, 1);
        // Each alone on the rack: which kinds find it?
        boolean[][] isIt = {
            {true, false, false, false, false},
            {true, true, false, false, false},
            {true, true, true, false, false},
            {false, false, false, true, false},
            {false, false, false, false, true},
        };
        for (int t = 0; t < 9; t++) {
            x.put(0, t, t);
            for (int kind = 0; kind < 5; kind++) {
                int got = x.find(-1, kind);
                if (t < 5 && isIt[t][kind]) {
                    Due.done(x, "36: find(-1, " + kind + ") of kind " + t, got, t);
                } else {
                    Due.refused(x, "36: find(-1, " + kind + ") of kind " + t, got, 3);
                }
            }
            x.take(0, t);
        }
    }

    private static void findInOrder() {
        CostumeStock x = new CostumeStock();
        x.rack(3);
        x.rack(3);
        x.wear(0);
        x.wear(0);
        x.wear(0);
        x.wear(0);
        x.set();
        x.trunk(2);
        x.put(1, 0, 0);
        Due.done(x, "36: the second rack", x.find(-1, 0), 0);
        x.put(0, 2, 1);
        Due.done(x, "36: the first rack", x.find(-1, 0), 1);
        x.put(1005, 1, 2);
        x.put(0, 1, 5);
        Due.done(x, "36: a trunk stands before it", x.find(-1, 0), 2);
        x.put(1004, 5, 3);
        x.put(1005, 0, 4);
        Due.done(x, "36: a set stands in the trunk before it", x.find(-1, 0), 3);
        Due.done(x, "36: the set itself", x.find(-1, 4), 4);
        x.take(0, 1);
        Due.done(x, "36: the trunk is at hand", x.find(-1, 0), 1);
    }

    private static void findByFit() {
        CostumeStock x = new CostumeStock();
        x.rack(4);
        for (int t = 0; t < 3; t++) {
            x.wear(3);
        }
        x.set();
        x.actor();
        x.actor();
        x.measure(0, 0, 500);
        x.size(0, 0, 99);
        x.size(2, 0, 100);
        x.put(0, 0, 0);
        x.put(0, 1, 1);
        // 0 is wrong, 1 is open; 2 in the SET fits, and so the SET does.
        Due.refused(x, "36: find(0, 3)", x.find(0, 3), 3);
        x.put(1003, 3, 2);
        x.put(0, 3, 3);
        Due.done(x, "36: find(0, 3)", x.find(0, 3), 2);
        Due.done(x, "36: find(0, 4)", x.find(0, 4), 3);
        Due.refused(x, "36: find(1, 3), all open", x.find(1, 3), 3);
        Due.refused(x, "36: find(1, 4), open", x.find(1, 4), 3);
        Due.done(x, "36: find(-1, 3)", x.find(-1, 3), 0);
        x.take(0, 0);
        x.put(1003, 0, 0);
        Due.refused(x, "36: find(0, 4), one is wrong", x.find(0, 4), 3);
        Due.done(x, "36: find(0, 3), behind the wrong one", x.find(0, 3), 2);
    }

    private static void findRefused() {
        CostumeStock x = new CostumeStock();
        Due.refused(x, "36: find(-1, 0), no racks", x.find(-1, 0), 3);
        x.rack(2);
        x.actor();
        x.wear(0);
        x.put(0, 0, 0);
        for (int a : new int[] {1, -2, BIG, LOW}) {
            Due.refused(x, "36: find(" + a + ", 0)", x.find(a, 0), 10);
            Due.refused(x, "36: 10 ahead of 6", x.find(a, 9), 10);
        }
        for (int kind : new int[] {-1, 5, 6, BIG, LOW}) {
            Due.refused(x, "36: find(0, " + kind + ")", x.find(0, kind), 6);
            Due.refused(x, "36: find(-1, " + kind + ")", x.find(-1, kind), 6);
        }
    }

    private static void counts() {
        CostumeStock x = new CostumeStock();
        x.rack(6);
        x.rack(1);
        Due.done(x, "37: count(0)", x.count(0), 0);
        x.row(6, 1);
        x.wear(0);
        x.wear(0);
        x.trunk(4);
        x.set();
        x.trunk(1);
        x.put(0, 5, 0);
        Due.done(x, "37: count(0)", x.count(0), 1);
        x.put(0, 2, 3);
        x.put(1003, 3, 4);
        x.put(1004, 0, 1);
        x.put(1004, 5, 2);
        x.put(1003, 0, 5);
        Due.done(x, "37: count(0)", x.count(0), 6);
        Due.done(x, "37: count(1003)", x.count(1003), 4);
        Due.done(x, "37: count(1004)", x.count(1004), 2);
        Due.done(x, "37: count(1005)", x.count(1005), 0);
        Due.done(x, "37: count(1)", x.count(1), 0);
    }
}
