/** Promises 1 to 11: a new object; rack, wear, set, trunk, row; write, value; kind, state, holder. */
public final class ThingsTest {
    private static final int BIG = Integer.MAX_VALUE;
    private static final int LOW = Integer.MIN_VALUE;

    public static void main(String[] args) {
        newObject();
        racks();
        wear();
        sets();
        trunks();
        rows();
        oneNumberForAllThings();
        mostThings();
        bytes();
        chars();
        floats();
        writeRefused();
        valueRefused();
        kinds();
        statesAndHolders();
        Due.end();
    }

    private static void newObject() {
        CostumeStock x = new CostumeStock();
        Due.answer("1: status()", x.status(), 0);
        Due.answer("1: purse()", x.purse(), 0);
        Due.answer("1: spent()", x.spent(), 0);
        Due.answer("1: clear()", x.clear(), 0);
        // 17 goes over purse(), spent(), locks(0), locks(1), all 0: no THINGS, no RACKS.
        Due.answer("1: digest()", x.digest(), 17 * 31 * 31 * 31 * 31);
        Due.refused(x, "1: kind(0)", x.kind(0), 10);
        Due.refused(x, "1: count(0)", x.count(0), 1);
        Due.refused(x, "1: count(1000)", x.count(1000), 1);
        Due.refused(x, "1: measure(0, 0, 1)", x.measure(0, 0, 1), 10);
        Due.refused(x, "1: least(0, 0)", x.least(0, 0), 10);
        Due.refused(x, "1: back(0, 0, 0, 0)", x.back(0, 0, 0, 0), 10);
        Due.refused(x, "1: dressOf(0)", x.dressOf(0), 10);
        Due.refused(x, "1: undo()", x.undo(), 11);
        Due.done(x, "1: locks(0)", x.locks(0), 0);
        Due.done(x, "1: locks(1)", x.locks(1), 0);
        Due.done(x, "1: locks(2)", x.locks(2), 0);
    }

    private static void racks() {
        CostumeStock x = new CostumeStock();
        for (int n : new int[] {0, -1, 41, BIG, LOW}) {
            Due.refused(x, "2: rack(" + n + ")", x.rack(n), 6);
        }
        Due.done(x, "2: rack(1)", x.rack(1), 0);
        Due.done(x, "2: rack(40)", x.rack(40), 1);
        Due.refused(x, "2: inside(0, 0)", x.inside(0, 0), 3);
        Due.refused(x, "2: inside(0, 1)", x.inside(0, 1), 2);
        Due.refused(x, "2: inside(1, 39)", x.inside(1, 39), 3);
        Due.refused(x, "2: inside(1, 40)", x.inside(1, 40), 2);
        for (int r = 2; r < 12; r++) {
            Due.done(x, "2: rack(3)", x.rack(3), r);
        }
        Due.refused(x, "2: rack(3), the 13th", x.rack(3), 6);
        Due.refused(x, "2: inside(11, 2)", x.inside(11, 2), 3);
        Due.refused(x, "2: inside(12, 0)", x.inside(12, 0), 1);
    }

    private static void wear() {
        CostumeStock x = new CostumeStock();
        for (int kind : new int[] {-1, 4, 5, 6, BIG, LOW}) {
            Due.refused(x, "3: wear(" + kind + ")", x.wear(kind), 6);
        }
        for (int kind = 0; kind < 4; kind++) {
            Due.done(x, "3: wear(" + kind + ")", x.wear(kind), kind);
            Due.done(x, "3: kind(" + kind + ")", x.kind(kind), kind);
            Due.done(x, "3: state(" + kind + ")", x.state(kind), 0);
            for (int part = 0; part < 6; part++) {
                for (int what = 0; what < 3; what++) {
                    Due.done(x, "3: sizeOf() of new wear", x.sizeOf(kind, part, what), 0);
                }
            }
        }
    }

    private static void sets() {
        CostumeStock x = new CostumeStock();
        Due.done(x, "4: set()", x.set(), 0);
        Due.done(x, "4: set()", x.set(), 1);
        Due.done(x, "4: kind(1)", x.kind(1), 4);
        Due.refused(x, "4: inside(1001, 5)", x.inside(1001, 5), 3);
        Due.refused(x, "4: inside(1001, 6)", x.inside(1001, 6), 2);
        Due.refused(x, "4: inside(1001, -1)", x.inside(1001, -1), 2);
        Due.done(x, "4: count(1000)", x.count(1000), 0);
    }

    private static void trunks() {
        CostumeStock x = new CostumeStock();
        for (int n : new int[] {0, -1, 21, BIG, LOW}) {
            Due.refused(x, "5: trunk(" + n + ")", x.trunk(n), 6);
        }
        Due.done(x, "5: trunk(1)", x.trunk(1), 0);
        Due.done(x, "5: trunk(20)", x.trunk(20), 1);
        Due.done(x, "5: kind(1)", x.kind(1), 5);
        Due.refused(x, "5: inside(1000, 0)", x.inside(1000, 0), 3);
        Due.refused(x, "5: inside(1000, 1)", x.inside(1000, 1), 2);
        Due.refused(x, "5: inside(1001, 19)", x.inside(1001, 19), 3);
        Due.refused(x, "5: inside(1001, 20)", x.inside(1001, 20), 2);
    }

    private static void rows() {
        CostumeStock x = new CostumeStock();
        for (int kind : new int[] {5, 9, -1, 0, BIG, LOW}) {
            Due.refused(x, "6: row(" + kind + ", 3)", x.row(kind, 3), 6);
        }
        for (int n : new int[] {-1, 41, BIG, LOW}) {
            Due.refused(x, "6: row(7, " + n + ")", x.row(7, n), 6);
        }
        for (int kind = 6; kind < 9; kind++) {
            int t = kind - 6;
            Due.done(x, "6: row(" + kind + ", 40)", x.row(kind, 40), t);
            Due.done(x, "6: kind(" + t + ")", x.kind(t), kind);
            for (int i = 0; i < 40; i++) {
                Due.done(x, "6: value(" + t + ", " + i + ")", x.value(t, i), 0);
            }
            Due.refused(x, "6: value(" + t + ", 40)", x.value(t, 40), 2);
        }
        Due.done(x, "6: row(8, 0)", x.row(8, 0), 3);
        Due.refused(x, "6: value(3, 0)", x.value(3, 0), 2);
    }

    private static void oneNumberForAllThings() {
        CostumeStock x = new CostumeStock();
        Due.done(x, "wear(2)", x.wear(2), 0);
        Due.done(x, "row(6, 1)", x.row(6, 1), 1);
        Due.done(x, "rack(1)", x.rack(1), 0);
        Due.done(x, "trunk(1)", x.trunk(1), 2);
        Due.done(x, "actor()", x.actor(), 0);
        Due.done(x, "set()", x.set(), 3);
        Due.refused(x, "wear(9)", x.wear(9), 6);
        Due.done(x, "wear(0)", x.wear(0), 4);
    }

    private static void mostThings() {
        CostumeStock x = new CostumeStock();
        for (int t = 0; t < 200; t++) {
            int got = t % 4 == 0 ? x.wear(1) : t % 4 == 1 ? x.set() : t % 4 == 2 ? x.trunk(2) : x.row(6, 2);
            Due.done(x, "thing " + t, got, t);
        }
        Due.refused(x, "3: wear(0), the 201st thing", x.wear(0), 6);
        Due.refused(x, "4: set(), the 201st thing", x.set(), 6);
        Due.refused(x, "5: trunk(1), the 201st thing", x.trunk(1), 6);
        Due.refused(x, "6: row(6, 1), the 201st thing", x.row(6, 1), 6);
        Due.done(x, "kind(199)", x.kind(199), 6);
        Due.refused(x, "kind(200)", x.kind(200), 10);
    }

    private static void bytes() {
        CostumeStock x = new CostumeStock();
        x.row(6, 2);
        int[][] vs = {{0, 0}, {127, 127}, {128, 128}, {255, 255}, {256, 0}, {300, 44}, {-1, 255}, {-128, 128},
            {BIG, 255}, {LOW, 0}};
        for (int[] v : vs) {
            Due.done(x, "7: write(0, 1, " + v[0] + ")", x.write(0, 1, v[0]), 1);
            Due.done(x, "8: value(0, 1)", x.value(0, 1), v[1]);
            Due.done(x, "8: value(0, 0)", x.value(0, 0), 0);
        }
    }

    private static void chars() {
        CostumeStock x = new CostumeStock();
        x.row(8, 2);
        int[][] vs = {{0, 0}, {255, 255}, {256, 256}, {65535, 65535}, {65536, 0}, {65601, 65}, {-1, 65535},
            {-2, 65534}, {BIG, 65535}, {LOW, 0}};
        for (int[] v : vs) {
            Due.done(x, "7: write(0, 0, " + v[0] + ")", x.write(0, 0, v[0]), 1);
            Due.done(x, "8: value(0, 0)", x.value(0, 0), v[1]);
            Due.done(x, "8: value(0, 1)", x.value(0, 1), 0);
        }
    }

    private static void floats() {
        CostumeStock x = new CostumeStock();
        x.row(7, 2);
        int[][] vs = {{0, 0}, {9, 0}, {10, 1}, {19, 1}, {999, 99}, {2999, 299}, {3000, 300}, {-2, BIG}};
        for (int[] v : vs) {
            Due.done(x, "7: write(0, 1, " + v[0] + ")", x.write(0, 1, v[0]), 1);
            Due.done(x, "8: value(0, 1)", x.value(0, 1), v[1]);
        }
        Due.done(x, "7: write(0, 1, -1)", x.write(0, 1, -1), 1);
        Due.refused(x, "8: value(0, 1) of NONE", x.value(0, 1), 13);
        for (int v : new int[] {-3, 3001, BIG, LOW}) {
            Due.refused(x, "7: write(0, 0, " + v + ")", x.write(0, 0, v), 6);
        }
        Due.done(x, "8: value(0, 0)", x.value(0, 0), 0);
    }

    private static void writeRefused() {
        CostumeStock x = new CostumeStock();
        x.row(7, 2);
        x.wear(0);
        x.set();
        x.trunk(1);
        for (int t : new int[] {4, -1, BIG, LOW}) {
            Due.refused(x, "7: write(" + t + ", 0, 0)", x.write(t, 0, 0), 10);
        }
        for (int t = 1; t < 4; t++) {
            Due.refused(x, "7: write(" + t + ", 0, 0)", x.write(t, 0, 0), 4);
            Due.refused(x, "7: 4 ahead of 2 and 6", x.write(t, 9, 5000), 4);
        }
        for (int i : new int[] {2, -1, BIG, LOW}) {
            Due.refused(x, "7: write(0, " + i + ", 0)", x.write(0, i, 0), 2);
            Due.refused(x, "7: 2 ahead of 6", x.write(0, i, 5000), 2);
        }
    }

    private static void valueRefused() {
        CostumeStock x = new CostumeStock();
        x.row(6, 2);
        x.wear(3);
        x.set();
        x.trunk(1);
        for (int t : new int[] {4, -1, BIG, LOW}) {
            Due.refused(x, "8: value(" + t + ", 0)", x.value(t, 0), 10);
        }
        for (int t = 1; t < 4; t++) {
            Due.refused(x, "8: value(" + t + ", 0)", x.value(t, 0), 4);
            Due.refused(x, "8: 4 ahead of 2", x.value(t, 9), 4);
        }
        for (int i : new int[] {2, -1, BIG, LOW}) {
            Due.refused(x, "8: value(0, " + i + ")", x.value(0, i), 2);
        }
        // -1 and -2 are NONE and ENDLESS of FLOATS alone.
        x.row(8, 1);
        x.write(0, 0, -1);
        x.write(4, 0, -2);
        Due.done(x, "8: value(0, 0)", x.value(0, 0), 255);
        Due.done(x, "8: value(4, 0)", x.value(4, 0), 65534);
    }

    private static void kinds() {
        CostumeStock x = new CostumeStock();
        for (int kind = 0; kind < 4; kind++) {
            x.wear(kind);
        }
        x.set();
        x.trunk(2);
        for (int kind = 6; kind < 9; kind++) {
            x.row(kind, 1);
        }
        for (int t = 0; t < 9; t++) {
            Due.done(x, "9: kind(" + t + ")", x.kind(t), t);
        }
        for (int t : new int[] {9, -1, BIG, LOW}) {
            Due.refused(x, "9: kind(" + t + ")", x.kind(t), 10);
            Due.refused(x, "10: state(" + t + ")", x.state(t), 10);
            Due.refused(x, "11: holder(" + t + ")", x.holder(t), 10);
        }
    }

    private static void statesAndHolders() {
        CostumeStock x = new CostumeStock();
        x.rack(3);
        x.rack(3);
        x.wear(0);
        x.trunk(2);
        x.set();
        Due.done(x, "10: state(0), at hand", x.state(0), 0);
        Due.refused(x, "11: holder(0), at hand", x.holder(0), 8);
        x.put(1002, 3, 0);
        Due.done(x, "10: state(0), in a set", x.state(0), 1);
        Due.done(x, "11: holder(0), in a set", x.holder(0), 1002);
        x.put(1001, 1, 2);
        Due.done(x, "11: holder(2), in a trunk", x.holder(2), 1001);
        x.put(1, 2, 1);
        Due.done(x, "11: holder(1), in a rack", x.holder(1), 1);
        x.hire(1, 5);
        Due.done(x, "10: state(1), out", x.state(1), 2);
        Due.refused(x, "11: holder(1), out", x.holder(1), 8);
        // What is in it goes with it: it is still in its SLOT.
        Due.done(x, "10: state(2), in what is out", x.state(2), 1);
        Due.done(x, "11: holder(2), in what is out", x.holder(2), 1001);
        x.back(0, 0, 0, 5);
        Due.done(x, "10: state(1), back", x.state(1), 1);
        Due.done(x, "11: holder(1), back", x.holder(1), 0);
        x.take(0, 0);
        Due.done(x, "10: state(1), taken", x.state(1), 0);
        Due.refused(x, "11: holder(1), taken", x.holder(1), 8);
    }
}
