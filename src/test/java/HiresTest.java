/** Promises 31 to 35: hire, back; purse, spent, share. */
public final class HiresTest {
    private static final int BIG = Integer.MAX_VALUE;
    private static final int LOW = Integer.MIN_VALUE;

    public static void main(String[] args) {
        outAndBack();
        kindsForHire();
        hireRefused();
        hireFromAnyHolder();
        backRefused();
        backRefusedFirst();
        backRefusedAsPut();
        depositEdges();
        numbersAreGivenOnce();
        manyHires();
        spent();
        shares();
        shareRefused();
        Due.end();
    }

    private static void outAndBack() {
        CostumeStock x = new CostumeStock();
        x.rack(3);
        x.wear(0);
        x.put(0, 1, 0);
        Due.done(x, "31: hire(0, 1000)", x.hire(0, 1000), 0);
        Due.answer("33: purse()", x.purse(), 1000);
        Due.done(x, "31: state(0)", x.state(0), 2);
        Due.refused(x, "31: inside(0, 1)", x.inside(0, 1), 3);
        Due.done(x, "32: back(0, 0, 2, 300)", x.back(0, 0, 2, 300), 700);
        Due.answer("33: purse()", x.purse(), 300);
        Due.done(x, "32: state(0)", x.state(0), 1);
        Due.done(x, "32: inside(0, 2)", x.inside(0, 2), 0);
        Due.refused(x, "32: inside(0, 1)", x.inside(0, 1), 3);
        Due.done(x, "32: holder(0)", x.holder(0), 0);
    }

    private static void kindsForHire() {
        CostumeStock x = new CostumeStock();
        x.rack(9);
        for (int kind = 0; kind < 4; kind++) {
            x.wear(kind);
        }
        x.set();
        x.trunk(1);
        for (int kind = 6; kind < 9; kind++) {
            x.row(kind, 1);
        }
        for (int t = 0; t < 9; t++) {
            x.put(0, t, t);
        }
        for (int t = 0; t < 6; t++) {
            Due.done(x, "31: hire(" + t + ", 1)", x.hire(t, 1), t);
        }
        for (int t = 6; t < 9; t++) {
            Due.refused(x, "31: hire(" + t + ", 1)", x.hire(t, 1), 4);
            Due.done(x, "31: state(" + t + ")", x.state(t), 1);
        }
        Due.answer("33: purse()", x.purse(), 6);
    }

    private static void hireRefused() {
        CostumeStock x = new CostumeStock();
        x.rack(2);
        x.wear(0);
        x.row(6, 1);
        for (int t : new int[] {2, -1, BIG, LOW}) {
            Due.refused(x, "31: 10 ahead of all", x.hire(t, -5), 10);
        }
        Due.refused(x, "31: 4 ahead of 8 and 6", x.hire(1, -5), 4);
        Due.refused(x, "31: at hand", x.hire(0, 5), 8);
        Due.refused(x, "31: 8 ahead of 6", x.hire(0, -5), 8);
        x.put(0, 0, 0);
        for (int cents : new int[] {-1, 1000001, BIG, LOW}) {
            Due.refused(x, "31: hire(0, " + cents + ")", x.hire(0, cents), 6);
        }
        Due.done(x, "31: state(0)", x.state(0), 1);
        Due.done(x, "31: hire(0, 1000000)", x.hire(0, 1000000), 0);
        Due.refused(x, "31: out", x.hire(0, 5), 8);
        Due.answer("33: purse()", x.purse(), 1000000);
        x.back(0, 0, 0, 0);
        Due.done(x, "31: hire(0, 0)", x.hire(0, 0), 1);
        Due.answer("33: purse()", x.purse(), 0);
    }

    private static void hireFromAnyHolder() {
        CostumeStock x = new CostumeStock();
        x.rack(1);
        x.set();
        x.wear(1);
        x.trunk(1);
        x.put(1000, 2, 1);
        Due.done(x, "31: from a set at hand", x.hire(1, 3), 0);
        Due.refused(x, "31: inside(1000, 2)", x.inside(1000, 2), 3);
        Due.done(x, "32: into a trunk at hand", x.back(0, 1002, 0, 3), 0);
        Due.done(x, "32: holder(1)", x.holder(1), 1002);
        x.put(0, 0, 2);
        x.hire(2, 4);
        Due.done(x, "31: from a trunk that is out", x.hire(1, 5), 2);
        Due.done(x, "32: into a trunk that is out", x.back(2, 1002, 0, 0), 5);
        Due.done(x, "32: back(1, ..)", x.back(1, 0, 0, 4), 0);
        Due.done(x, "37: count(0)", x.count(0), 2);
        Due.answer("33: purse()", x.purse(), 7);
    }

    private static void backRefused() {
        CostumeStock x = new CostumeStock();
        x.rack(2);
        x.wear(0);
        x.put(0, 0, 0);
        Due.refused(x, "32: no hires", x.back(0, 0, 0, 0), 10);
        x.hire(0, 10);
        for (int hire : new int[] {1, -1, 300, BIG, LOW}) {
            Due.refused(x, "32: back(" + hire + ", 0, 0, 0)", x.back(hire, 0, 0, 0), 10);
        }
        for (int h : new int[] {1, -1, 1000, BIG, LOW}) {
            Due.refused(x, "32: back(0, " + h + ", 0, 0)", x.back(0, h, 0, 0), 1);
        }
        for (int s : new int[] {2, -1, BIG, LOW}) {
            Due.refused(x, "32: back(0, 0, " + s + ", 0)", x.back(0, 0, s, 0), 2);
        }
        for (int cents : new int[] {11, -1, BIG, LOW}) {
            Due.refused(x, "32: back(0, 0, 0, " + cents + ")", x.back(0, 0, 0, cents), 6);
        }
        Due.done(x, "32: state(0)", x.state(0), 2);
        Due.answer("33: purse()", x.purse(), 10);
        Due.done(x, "32: back(0, 0, 0, 10)", x.back(0, 0, 0, 10), 0);
        Due.refused(x, "32: it is back", x.back(0, 0, 1, 0), 10);
        x.undo();
        x.undo();
        Due.refused(x, "32: it was undone", x.back(0, 0, 1, 0), 10);
    }

    private static void backRefusedFirst() {
        CostumeStock x = new CostumeStock();
        x.rack(2);
        x.trunk(1);
        x.wear(0);
        x.set();
        x.put(0, 0, 0);
        x.hire(0, 10);
        x.put(0, 0, 1);
        Due.refused(x, "32: 10 ahead of 1", x.back(5, 9, 9, 99), 10);
        Due.refused(x, "32: 1 ahead of 2", x.back(0, 9, 9, 99), 1);
        Due.refused(x, "32: 2 ahead of 6", x.back(0, 0, 9, 99), 2);
        Due.refused(x, "32: 5 ahead of 6", x.back(0, 0, 0, 99), 5);
        Due.refused(x, "32: 4 ahead of 6", x.back(0, 1002, 0, 99), 4);
        Due.refused(x, "32: 9 ahead of 6", x.back(0, 1000, 0, 99), 9);
        x.take(0, 0);
        x.put(1002, 0, 1);
        Due.refused(x, "32: 5 ahead of 4", x.back(0, 1002, 0, 99), 5);
        Due.refused(x, "32: 2 ahead of 4", x.back(0, 1002, 6, 99), 2);
        x.take(1002, 0);
        x.put(1000, 0, 1);
        Due.refused(x, "32: 5 ahead of 9", x.back(0, 1000, 0, 99), 5);
        Due.refused(x, "32: 2 ahead of 9", x.back(0, 1000, 1, 99), 2);
    }

    private static void backRefusedAsPut() {
        CostumeStock x = new CostumeStock();
        x.rack(2);
        for (int t = 0; t < 7; t++) {
            x.trunk(2);
        }
        x.set();
        // 1 in 0, out; 3 to 6 in 2.
        x.put(1000, 0, 1);
        x.put(0, 0, 0);
        x.hire(0, 1);
        for (int t = 3; t < 7; t++) {
            x.put(999 + t, 0, t);
        }
        Due.refused(x, "32: into itself", x.back(0, 1000, 1, 0), 9);
        Due.refused(x, "32: into what is in it", x.back(0, 1001, 0, 0), 9);
        Due.refused(x, "32: 5 and 2 deep", x.back(0, 1006, 0, 0), 9);
        Due.refused(x, "32: into a set", x.back(0, 1007, 0, 0), 4);
        Due.done(x, "32: 4 and 2 deep", x.back(0, 1005, 1, 0), 1);
        x.put(0, 1, 7);
        Due.done(x, "31: hire(7, 2)", x.hire(7, 2), 1);
        Due.refused(x, "32: a set into a set", x.back(1, 1007, 0, 0), 4);
        Due.done(x, "32: a set into the sixth trunk", x.back(1, 1001, 1, 2), 0);
    }

    private static void depositEdges() {
        CostumeStock x = new CostumeStock();
        x.rack(1);
        x.wear(3);
        x.put(0, 0, 0);
        x.hire(0, 0);
        Due.refused(x, "32: one of none", x.back(0, 0, 0, 1), 6);
        Due.done(x, "32: none of none", x.back(0, 0, 0, 0), 0);
        x.hire(0, 7);
        Due.done(x, "32: all go", x.back(1, 0, 0, 0), 7);
        Due.answer("33: purse()", x.purse(), 0);
        x.hire(0, 7);
        Due.done(x, "32: all stay", x.back(2, 0, 0, 7), 0);
        Due.answer("33: purse()", x.purse(), 7);
        x.hire(0, 9);
        // What stayed of another deposit is not given back.
        Due.refused(x, "32: more than its deposit", x.back(3, 0, 0, 10), 6);
        Due.answer("33: purse()", x.purse(), 16);
    }

    private static void numbersAreGivenOnce() {
        CostumeStock x = new CostumeStock();
        x.rack(2);
        x.wear(3);
        x.wear(3);
        x.put(0, 0, 0);
        x.put(0, 1, 1);
        Due.done(x, "31: hire(0, 5)", x.hire(0, 5), 0);
        x.undo();
        Due.done(x, "31: hire(0, 6) after undo", x.hire(0, 6), 1);
        Due.refused(x, "31: hire(1, -1)", x.hire(1, -1), 6);
        Due.done(x, "31: hire(1, 7)", x.hire(1, 7), 2);
        Due.answer("33: purse()", x.purse(), 13);
        Due.done(x, "32: the later one first", x.back(2, 0, 0, 2), 5);
        Due.done(x, "32: then the first", x.back(1, 0, 1, 1), 5);
        Due.done(x, "14: inside(0, 0)", x.inside(0, 0), 1);
        Due.done(x, "14: inside(0, 1)", x.inside(0, 1), 0);
        Due.answer("33: purse()", x.purse(), 3);
    }

    private static void manyHires() {
        CostumeStock x = new CostumeStock();
        x.rack(1);
        x.wear(3);
        x.put(0, 0, 0);
        for (int hire = 0; hire < 120; hire++) {
            Due.answer("31: hire(0, 1000000)", x.hire(0, 1000000), hire);
            Due.answer("32: back(" + hire + ", ..)", x.back(hire, 0, 0, 1000000), 0);
        }
        Due.answer("33: purse()", x.purse(), 120000000);
    }

    private static void spent() {
        CostumeStock x = new CostumeStock();
        x.rack(1);
        x.wear(2);
        x.size(0, 1, 100);
        x.reach(0, 1, 9, 9);
        x.alter(0, 1, 2);
        Due.answer("34: spent()", x.spent(), 10);
        x.alter(0, 1, -2);
        Due.answer("34: spent()", x.spent(), 20);
        x.alter(0, 1, 50);
        // purse() and spent() can't be refused: the STATUS is that of alter().
        Due.answer("34: spent()", x.spent(), 20);
        Due.answer("33: purse()", x.purse(), 0);
        Due.answer("40: status()", x.status(), 6);
    }

    private static void shares() {
        CostumeStock x = new CostumeStock();
        Due.done(x, "35: share(0, 1), empty", x.share(0, 1), 0);
        Due.done(x, "35: share(6, 7), empty", x.share(6, 7), 0);
        x.rack(1);
        x.wear(3);
        x.put(0, 0, 0);
        x.hire(0, 17);
        int[] due = {4, 4, 3, 3, 3};
        for (int i = 0; i < 5; i++) {
            Due.done(x, "35: share(" + i + ", 5)", x.share(i, 5), due[i]);
        }
        Due.done(x, "35: share(0, 1)", x.share(0, 1), 17);
        Due.done(x, "35: share(16, 17)", x.share(16, 17), 1);
        Due.done(x, "35: share(16, 18)", x.share(16, 18), 1);
        Due.done(x, "35: share(17, 18)", x.share(17, 18), 0);
        Due.done(x, "35: share(0, BIG)", x.share(0, BIG), 1);
        Due.done(x, "35: share(BIG - 1, BIG)", x.share(BIG - 1, BIG), 0);
        Due.answer("35: nothing is taken", x.purse(), 17);
    }

    private static void shareRefused() {
        CostumeStock x = new CostumeStock();
        Due.refused(x, "35: share(0, 0)", x.share(0, 0), 7);
        Due.refused(x, "35: 7 ahead of 2", x.share(-1, 0), 7);
        Due.refused(x, "35: share(0, -1)", x.share(0, -1), 6);
        Due.refused(x, "35: share(0, LOW)", x.share(0, LOW), 6);
        Due.refused(x, "35: 6 ahead of 2", x.share(-1, -1), 6);
        Due.refused(x, "35: share(1, 1)", x.share(1, 1), 2);
        Due.refused(x, "35: share(-1, 1)", x.share(-1, 1), 2);
        Due.refused(x, "35: share(BIG, BIG)", x.share(BIG, BIG), 2);
        Due.refused(x, "35: share(LOW, 3)", x.share(LOW, 3), 2);
    }
}
