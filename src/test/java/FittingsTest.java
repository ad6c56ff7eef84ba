/** Promises 15 to 24: size, reach, alter, sizeOf; actor, measure; fits, cost, minutes, wash. */
public final class FittingsTest {
    private static final int BIG = Integer.MAX_VALUE;
    private static final int LOW = Integer.MIN_VALUE;
    private static final int[][] NEEDS = {{1, 2, 3, 5}, {1, 2, 4}, {1, 2, 4, 5}, {0}};
    private static final int[] PRICES = {2, 2, 3, 5};
    private static final int[] MORE = {0, 4, 4, 0};

    public static void main(String[] args) {
        sizes();
        reaches();
        partRefusals();
        alterMoves();
        alterPrices();
        alterEdges();
        alterRefused();
        sizeOfEach();
        actors();
        measureRefused();
        neededParts();
        wrongBeforeOpen();
        fitEdges();
        wantedRoundsUp();
        costs();
        setFits();
        setCosts();
        fitRefused();
        minutes();
        wash();
        Due.end();
    }

    private static void sizes() {
        CostumeStock x = new CostumeStock();
        for (int kind = 0; kind < 4; kind++) {
            x.wear(kind);
            Due.done(x, "15: size(.., 5, 255)", x.size(kind, 5, 255), 0);
            Due.done(x, "15: size(.., 5, 1)", x.size(kind, 5, 1), 255);
            Due.done(x, "15: size(.., 5, 0)", x.size(kind, 5, 0), 1);
            Due.done(x, "15: size(.., 0, 77)", x.size(kind, 0, 77), 0);
            Due.done(x, "15: sizeOf(.., 5, 0)", x.sizeOf(kind, 5, 0), 0);
            Due.done(x, "15: sizeOf(.., 0, 0)", x.sizeOf(kind, 0, 0), 77);
        }
        for (int n : new int[] {256, -1, BIG, LOW}) {
            Due.refused(x, "15: size(0, 0, " + n + ")", x.size(0, 0, n), 6);
        }
        Due.done(x, "15: sizeOf(0, 0, 0) stays", x.sizeOf(0, 0, 0), 77);
        x.reach(0, 0, 3, 4);
        x.size(0, 0, 90);
        Due.done(x, "15: IN stays", x.sizeOf(0, 0, 1), 3);
        Due.done(x, "15: OUT stays", x.sizeOf(0, 0, 2), 4);
    }

    private static void reaches() {
        CostumeStock x = new CostumeStock();
        x.wear(2);
        x.wear(3);
        Due.done(x, "16: reach(0, 4, 60, 0)", x.reach(0, 4, 60, 0), 1);
        Due.done(x, "16: IN", x.sizeOf(0, 4, 1), 60);
        Due.done(x, "16: OUT", x.sizeOf(0, 4, 2), 0);
        Due.done(x, "16: reach(0, 4, 0, 60)", x.reach(0, 4, 0, 60), 1);
        Due.done(x, "16: IN", x.sizeOf(0, 4, 1), 0);
        Due.done(x, "16: OUT", x.sizeOf(0, 4, 2), 60);
        for (int n : new int[] {61, -1, BIG, LOW}) {
            Due.refused(x, "16: reach(0, 4, " + n + ", 1)", x.reach(0, 4, n, 1), 6);
            Due.refused(x, "16: reach(0, 4, 1, " + n + ")", x.reach(0, 4, 1, n), 6);
        }
        Due.done(x, "16: IN stays", x.sizeOf(0, 4, 1), 0);
        Due.done(x, "16: OUT stays", x.sizeOf(0, 4, 2), 60);
        Due.done(x, "16: another part", x.sizeOf(0, 3, 2), 0);
        Due.done(x, "16: another thing", x.sizeOf(1, 4, 2), 0);
        Due.done(x, "16: SIZE stays", x.sizeOf(0, 4, 0), 0);
    }

    private static void partRefusals() {
        CostumeStock x = new CostumeStock();
        x.wear(1);
        x.set();
        x.trunk(1);
        x.row(6, 9);
        for (int t : new int[] {4, -1, BIG, LOW}) {
            Due.refused(x, "15: size(" + t + ", 9, 999)", x.size(t, 9, 999), 10);
            Due.refused(x, "16: reach(" + t + ", 9, 999, 0)", x.reach(t, 9, 999, 0), 10);
            Due.refused(x, "17: alter(" + t + ", 9, 999)", x.alter(t, 9, 999), 10);
            Due.refused(x, "18: sizeOf(" + t + ", 9, 9)", x.sizeOf(t, 9, 9), 10);
        }
        for (int t = 1; t < 4; t++) {
            Due.refused(x, "15: size(" + t + ", 9, 999)", x.size(t, 9, 999), 4);
            Due.refused(x, "16: reach(" + t + ", 9, 999, 0)", x.reach(t, 9, 999, 0), 4);
            Due.refused(x, "17: alter(" + t + ", 9, 999)", x.alter(t, 9, 999), 4);
            Due.refused(x, "18: sizeOf(" + t + ", 9, 9)", x.sizeOf(t, 9, 9), 4);
        }
        for (int part : new int[] {6, -1, BIG, LOW}) {
            Due.refused(x, "15: size(0, " + part + ", 999)", x.size(0, part, 999), 2);
            Due.refused(x, "16: reach(0, " + part + ", 999, 0)", x.reach(0, part, 999, 0), 2);
            Due.refused(x, "17: alter(0, " + part + ", 999)", x.alter(0, part, 999), 2);
            Due.refused(x, "18: sizeOf(0, " + part + ", 9)", x.sizeOf(0, part, 9), 2);
        }
        Due.refused(x, "undo() of what was refused", x.undo(), 11);
    }

    private static void alterMoves() {
        CostumeStock x = new CostumeStock();
        x.wear(0);
        x.size(0, 4, 100);
        x.reach(0, 4, 10, 20);
        Due.done(x, "17: alter(0, 4, 7)", x.alter(0, 4, 7), 14);
        Due.done(x, "17: SIZE", x.sizeOf(0, 4, 0), 107);
        Due.done(x, "17: IN", x.sizeOf(0, 4, 1), 17);
        Due.done(x, "17: OUT", x.sizeOf(0, 4, 2), 13);
        Due.done(x, "17: alter(0, 4, -17)", x.alter(0, 4, -17), 34);
        Due.done(x, "17: SIZE", x.sizeOf(0, 4, 0), 90);
        Due.done(x, "17: IN", x.sizeOf(0, 4, 1), 0);
        Due.done(x, "17: OUT", x.sizeOf(0, 4, 2), 30);
        Due.answer("34: spent()", x.spent(), 48);
    }

    private static void alterPrices() {
        CostumeStock x = new CostumeStock();
        int spent = 0;
        for (int kind = 0; kind < 4; kind++) {
            x.wear(kind);
            for (int part = 0; part < 6; part++) {
                x.size(kind, part, 100);
                x.reach(kind, part, 9, 9);
                int up = 3 * PRICES[kind] + MORE[kind];
                int down = 8 * PRICES[kind] + MORE[kind];
                Due.done(x, "17: alter(" + kind + ", " + part + ", 3)", x.alter(kind, part, 3), up);
                Due.done(x, "17: alter(" + kind + ", " + part + ", -8)", x.alter(kind, part, -8), down);
                Due.done(x, "17: alter(" + kind + ", " + part + ", 0)", x.alter(kind, part, 0), 0);
                spent += up + down;
                Due.answer("34: spent()", x.spent(), spent);
            }
        }
    }

    private static void alterEdges() {
        CostumeStock x = new CostumeStock();
        x.wear(3);
        x.size(0, 0, 254);
        x.reach(0, 0, 60, 60);
        Due.refused(x, "17: to SIZE 256", x.alter(0, 0, 2), 6);
        Due.done(x, "17: to SIZE 255", x.alter(0, 0, 1), 5);
        x.size(0, 0, 10);
        Due.refused(x, "17: to SIZE 0", x.alter(0, 0, -10), 6);
        Due.done(x, "17: to SIZE 1", x.alter(0, 0, -9), 45);
        x.size(0, 0, 100);
        x.reach(0, 0, 5, 6);
        Due.refused(x, "17: IN below 0", x.alter(0, 0, -6), 6);
        Due.refused(x, "17: OUT below 0", x.alter(0, 0, 7), 6);
        Due.done(x, "17: OUT to 0", x.alter(0, 0, 6), 30);
        Due.done(x, "17: IN to 0", x.alter(0, 0, -11), 55);
        Due.done(x, "17: SIZE", x.sizeOf(0, 0, 0), 95);
        Due.done(x, "17: OUT", x.sizeOf(0, 0, 2), 11);
        for (int steps : new int[] {BIG, LOW, -BIG, 256, -256}) {
            Due.refused(x, "17: alter(0, 0, " + steps + ")", x.alter(0, 0, steps), 6);
        }
        // IN and OUT may grow far above what reach() tells, to 255.
        x.reach(0, 0, 0, 60);
        x.size(0, 0, 1);
        Due.done(x, "17: IN above 60", x.alter(0, 0, 60), 300);
        Due.done(x, "17: IN", x.sizeOf(0, 0, 1), 60);
        x.reach(0, 0, 60, 60);
        Due.done(x, "17: IN to 120", x.alter(0, 0, 60), 300);
        Due.done(x, "17: IN", x.sizeOf(0, 0, 1), 120);
        Due.done(x, "17: OUT to 120", x.alter(0, 0, -120), 600);
        Due.done(x, "17: OUT", x.sizeOf(0, 0, 2), 120);
        Due.answer("34: spent()", x.spent(), 5 + 45 + 30 + 55 + 300 + 300 + 600);
    }

    private static void alterRefused() {
        CostumeStock x = new CostumeStock();
        x.wear(1);
        x.reach(0, 2, 9, 9);
        Due.refused(x, "17: SIZE not told", x.alter(0, 2, 1), 12);
        Due.refused(x, "17: 12 ahead of 6", x.alter(0, 2, 500), 12);
        Due.refused(x, "17: SIZE not told, no steps", x.alter(0, 2, 0), 12);
        Due.answer("34: spent()", x.spent(), 0);
    }

    private static void sizeOfEach() {
        CostumeStock x = new CostumeStock();
        x.wear(0);
        for (int part = 0; part < 6; part++) {
            x.size(0, part, 100 + part);
            x.reach(0, part, 10 + part, 20 + part);
        }
        for (int part = 0; part < 6; part++) {
            Due.done(x, "18: SIZE of " + part, x.sizeOf(0, part, 0), 100 + part);
            Due.done(x, "18: IN of " + part, x.sizeOf(0, part, 1), 10 + part);
            Due.done(x, "18: OUT of " + part, x.sizeOf(0, part, 2), 20 + part);
        }
        for (int what : new int[] {3, -1, BIG, LOW}) {
            Due.refused(x, "18: sizeOf(0, 0, " + what + ")", x.sizeOf(0, 0, what), 6);
        }
    }

    private static void actors() {
        CostumeStock x = new CostumeStock();
        for (int a = 0; a < 40; a++) {
            Due.done(x, "19: actor()", x.actor(), a);
        }
        Due.refused(x, "19: actor(), the 41st", x.actor(), 6);
        Due.done(x, "20: measure(39, 5, 0)", x.measure(39, 5, 0), 1);
        Due.refused(x, "20: measure(40, 5, 0)", x.measure(40, 5, 0), 10);
    }

    private static void measureRefused() {
        CostumeStock x = new CostumeStock();
        x.actor();
        x.wear(3);
        x.size(0, 0, 100);
        for (int a : new int[] {1, -1, BIG, LOW}) {
            Due.refused(x, "20: measure(" + a + ", 9, 9999)", x.measure(a, 9, 9999), 10);
        }
        for (int part : new int[] {6, -1, BIG, LOW}) {
            Due.refused(x, "20: measure(0, " + part + ", 9999)", x.measure(0, part, 9999), 2);
        }
        for (int v : new int[] {3001, -3, BIG, LOW}) {
            Due.refused(x, "20: measure(0, 0, " + v + ")", x.measure(0, 0, v), 6);
        }
        Due.done(x, "21: still NONE", x.fits(0, 0), 2);
        for (int v : new int[] {0, 3000, -2}) {
            Due.done(x, "20: measure(0, 0, " + v + ")", x.measure(0, 0, v), 1);
            Due.done(x, "21: wrong", x.fits(0, 0), 0);
        }
        Due.done(x, "20: measure(0, 0, 500)", x.measure(0, 0, 500), 1);
        Due.done(x, "21: good", x.fits(0, 0), 1);
        Due.done(x, "20: measure(0, 0, -1)", x.measure(0, 0, -1), 1);
        Due.done(x, "21: NONE again", x.fits(0, 0), 2);
    }

    /** Each KIND looks at the PARTS that it NEEDS, and at no other. */
    private static void neededParts() {
        for (int kind = 0; kind < 4; kind++) {
            CostumeStock x = new CostumeStock();
            x.wear(kind);
            x.actor();
            for (int part : NEEDS[kind]) {
                Due.done(x, "21: one is open", x.fits(0, 0), 2);
                x.size(0, part, 100);
                Due.done(x, "21: one is open", x.fits(0, 0), 2);
                x.measure(0, part, 500);
            }
            Due.done(x, "21: all are told", x.fits(0, 0), 1);
            for (int part = 0; part < 6; part++) {
                boolean isNeeded = false;
                for (int need : NEEDS[kind]) {
                    isNeeded = isNeeded || need == part;
                }
                x.measure(0, part, -2);
                Due.done(x, "21: kind " + kind + ", ENDLESS at " + part, x.fits(0, 0), isNeeded ? 0 : 1);
                x.measure(0, part, 500);
            }
        }
    }

    private static void wrongBeforeOpen() {
        CostumeStock x = new CostumeStock();
        x.wear(0);
        x.actor();
        x.measure(0, 5, -2);
        Due.done(x, "21: ENDLESS is wrong, SIZE not told", x.fits(0, 0), 0);
        x.measure(0, 5, 500);
        x.size(0, 5, 99);
        Due.done(x, "21: wrong at the last, open before", x.fits(0, 0), 0);
        x.size(0, 5, 100);
        Due.done(x, "21: open", x.fits(0, 0), 2);
        x.size(0, 1, 99);
        x.measure(0, 1, 500);
        x.size(0, 5, 0);
        Due.done(x, "21: wrong at the first, open behind", x.fits(0, 0), 0);
    }

    private static void fitEdges() {
        CostumeStock x = new CostumeStock();
        x.wear(3);
        x.actor();
        x.size(0, 0, 100);
        x.reach(0, 0, 3, 5);
        int[][] fits = {{480, 0}, {481, 1}, {485, 1}, {500, 1}, {525, 1}, {526, 0}, {530, 0}};
        for (int[] fit : fits) {
            x.measure(0, 0, fit[0]);
            Due.done(x, "21: measure " + fit[0], x.fits(0, 0), fit[1]);
        }
        x.measure(0, 0, 484);
        Due.done(x, "21: 97 is SIZE less IN", x.fits(0, 0), 1);
        Due.done(x, "22: three steps", x.cost(0, 0), 15);
        x.size(0, 0, 2);
        x.reach(0, 0, 2, 0);
        x.measure(0, 0, 0);
        Due.done(x, "21: measure 0", x.fits(0, 0), 1);
        Due.done(x, "22: two steps", x.cost(0, 0), 10);
        x.measure(0, 0, 3000);
        Due.done(x, "21: measure 3000", x.fits(0, 0), 0);
    }

    private static void wantedRoundsUp() {
        CostumeStock x = new CostumeStock();
        x.wear(3);
        x.actor();
        x.size(0, 0, 100);
        x.reach(0, 0, 60, 60);
        for (int tenths = 480; tenths <= 520; tenths++) {
            x.measure(0, 0, tenths);
            int wanted = (int) Math.ceil(tenths / 5.0);
            Due.done(x, "22: measure " + tenths, x.cost(0, 0), 5 * Math.abs(wanted - 100));
        }
    }

    private static void costs() {
        for (int kind = 0; kind < 4; kind++) {
            CostumeStock x = new CostumeStock();
            x.wear(kind);
            x.actor();
            for (int part = 0; part < 6; part++) {
                x.size(0, part, 100);
                x.reach(0, part, 20, 20);
                x.measure(0, part, 500);
            }
            Due.done(x, "22: no steps", x.cost(0, 0), 0);
            int steps = 0;
            for (int k = 0; k < NEEDS[kind].length; k++) {
                int far = k % 2 == 0 ? k + 1 : -k - 1;
                x.measure(0, NEEDS[kind][k], 500 + 5 * far);
                steps += k + 1;
                Due.done(x, "22: steps up and down", x.cost(0, 0), steps * PRICES[kind] + MORE[kind]);
            }
            x.measure(0, kind == 3 ? 1 : 0, 600);
            Due.done(x, "22: a part that is not needed", x.cost(0, 0), steps * PRICES[kind] + MORE[kind]);
        }
    }

    private static void setFits() {
        CostumeStock x = new CostumeStock();
        x.set();
        x.wear(3);
        x.wear(3);
        x.wear(3);
        x.actor();
        x.measure(0, 0, 500);
        x.size(1, 0, 100);
        x.size(3, 0, 90);
        Due.done(x, "21: nothing in it", x.fits(0, 0), 2);
        x.put(1000, 5, 1);
        Due.done(x, "21: one good", x.fits(0, 0), 1);
        x.put(1000, 0, 2);
        Due.done(x, "21: good and open", x.fits(0, 0), 2);
        x.put(1000, 2, 3);
        Due.done(x, "21: good, open, wrong", x.fits(0, 0), 0);
        x.take(1000, 0);
        Due.done(x, "21: good and wrong", x.fits(0, 0), 0);
        x.take(1000, 5);
        x.take(1000, 2);
        x.measure(0, 0, -2);
        Due.done(x, "21: nothing in it, ENDLESS", x.fits(0, 0), 2);
    }

    private static void setCosts() {
        CostumeStock x = new CostumeStock();
        x.set();
        x.actor();
        for (int kind = 0; kind < 4; kind++) {
            int t = x.wear(kind);
            for (int part = 0; part < 6; part++) {
                x.size(t, part, 100);
                x.reach(t, part, 20, 20);
            }
            x.put(1000, kind, t);
        }
        for (int part = 0; part < 6; part++) {
            x.measure(0, part, 500);
        }
        Due.done(x, "22: no steps", x.cost(0, 0), 0);
        x.measure(0, 1, 505);
        Due.done(x, "22: DRESS, COAT, UNIFORM a step", x.cost(0, 0), 2 + 6 + 7);
        x.measure(0, 0, 490);
        Due.done(x, "22: the MASK two", x.cost(0, 0), 2 + 6 + 7 + 10);
        x.measure(0, 5, 510);
        Due.done(x, "22: DRESS, UNIFORM two more", x.cost(0, 0), 6 + 6 + 13 + 10);
        x.size(1, 3, 0);
        Due.refused(x, "22: one is open", x.cost(0, 0), 12);
        x.take(1000, 0);
        Due.done(x, "22: without the dress", x.cost(0, 0), 6 + 13 + 10);
    }

    private static void fitRefused() {
        CostumeStock x = new CostumeStock();
        x.actor();
        x.set();
        x.trunk(1);
        x.row(6, 1);
        x.wear(3);
        int[][] none = {{1, 3}, {-1, 3}, {0, 4}, {0, -1}, {BIG, LOW}, {LOW, BIG}, {1, 1}};
        for (int[] n : none) {
            Due.refused(x, "21: fits(" + n[0] + ", " + n[1] + ")", x.fits(n[0], n[1]), 10);
            Due.refused(x, "22: cost(" + n[0] + ", " + n[1] + ")", x.cost(n[0], n[1]), 10);
        }
        for (int t = 1; t < 3; t++) {
            Due.refused(x, "21: fits(0, " + t + ")", x.fits(0, t), 4);
            Due.refused(x, "22: cost(0, " + t + ")", x.cost(0, t), 4);
        }
        Due.refused(x, "22: an empty set is open", x.cost(0, 0), 12);
        Due.refused(x, "22: open", x.cost(0, 3), 12);
        x.measure(0, 0, -2);
        Due.refused(x, "22: wrong", x.cost(0, 3), 12);
    }

    private static void minutes() {
        CostumeStock x = new CostumeStock();
        int[] due = {3, 1, 6, 3};
        for (int kind = 0; kind < 4; kind++) {
            x.wear(kind);
            Due.done(x, "23: minutes(" + kind + ")", x.minutes(kind), due[kind]);
        }
        x.set();
        Due.done(x, "23: nothing in it", x.minutes(4), 0);
        int sum = 0;
        for (int kind = 0; kind < 4; kind++) {
            x.put(1004, 5 - kind, kind);
            sum += due[kind];
            Due.done(x, "23: minutes(4)", x.minutes(4), sum);
        }
        x.trunk(1);
        x.row(8, 1);
        Due.refused(x, "23: minutes(5)", x.minutes(5), 4);
        Due.refused(x, "23: minutes(6)", x.minutes(6), 4);
        for (int t : new int[] {7, -1, BIG, LOW}) {
            Due.refused(x, "23: minutes(" + t + ")", x.minutes(t), 10);
            Due.refused(x, "24: wash(" + t + ")", x.wash(t), 10);
        }
    }

    private static void wash() {
        CostumeStock x = new CostumeStock();
        for (int kind = 0; kind < 4; kind++) {
            x.wear(kind);
        }
        x.set();
        x.trunk(1);
        x.row(6, 1);
        Due.done(x, "24: wash(0)", x.wash(0), 2);
        Due.done(x, "24: wash(1)", x.wash(1), 5);
        Due.done(x, "24: wash(2)", x.wash(2), 6);
        Due.refused(x, "24: wash(3)", x.wash(3), 4);
        Due.refused(x, "24: wash(5)", x.wash(5), 4);
        Due.refused(x, "24: wash(6)", x.wash(6), 4);
        Due.done(x, "24: nothing in it", x.wash(4), 1);
        x.put(1004, 5, 3);
        Due.done(x, "24: a mask in it", x.wash(4), 1);
        x.put(1004, 4, 0);
        Due.done(x, "24: a dress too", x.wash(4), 3);
        x.put(1004, 0, 2);
        Due.done(x, "24: a uniform too", x.wash(4), 7);
        x.put(1004, 1, 1);
        Due.done(x, "24: a coat too", x.wash(4), 7);
        x.take(1004, 0);
        Due.done(x, "24: the uniform is out", x.wash(4), 6);
    }
}
