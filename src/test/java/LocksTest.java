/** Promises 39 to 41: locks, status, digest. */
public final class LocksTest {
    private static final int BIG = Integer.MAX_VALUE;
    private static final int LOW = Integer.MIN_VALUE;
    private static int house;
    private static int holders;

    public static void main(String[] args) {
        whatIsAsked();
        putTakesBoth();
        takeAndInsideTakeBoth();
        hireTakesBoth();
        backTakesBoth();
        findTakesUpToWhereItFinds();
        findGoesIntoSets();
        countTakesEach();
        plansTakeAllRacks();
        othersTakeNone();
        statusOfEach();
        statusStays();
        digests();
        digestOfEach();
        Due.end();
    }

    private static void start() {
        house = 0;
        holders = 0;
    }

    /** So many LOCKS more than at the time before; none is kept. */
    private static void more(CostumeStock x, String call, int moreHouse, int moreHolders) {
        house += moreHouse;
        holders += moreHolders;
        Due.done(x, "39: locks(0) after " + call, x.locks(0), house);
        Due.done(x, "39: locks(1) after " + call, x.locks(1), holders);
        Due.done(x, "39: locks(2) after " + call, x.locks(2), 0);
    }

    private static void whatIsAsked() {
        CostumeStock x = new CostumeStock();
        start();
        more(x, "nothing", 0, 0);
        for (int what : new int[] {3, -1, BIG, LOW}) {
            Due.refused(x, "39: locks(" + what + ")", x.locks(what), 6);
        }
    }

    private static void putTakesBoth() {
        CostumeStock x = new CostumeStock();
        start();
        x.rack(2);
        x.trunk(1);
        x.set();
        x.wear(0);
        x.put(9, 0, 0);
        more(x, "put(), 1", 0, 0);
        x.put(0, 0, 9);
        more(x, "put(), 10", 0, 0);
        x.put(0, 9, 0);
        more(x, "put(), 2", 1, 1);
        x.put(0, 0, 2);
        more(x, "put()", 1, 1);
        x.put(0, 1, 2);
        more(x, "put(), 8", 1, 1);
        x.put(0, 0, 0);
        more(x, "put(), 5", 1, 1);
        x.put(1001, 0, 0);
        more(x, "put(), 4", 1, 1);
        x.put(1000, 0, 0);
        more(x, "put(), 9", 1, 1);
        x.put(1000, 0, 1);
        more(x, "put() into a trunk", 1, 1);
    }

    private static void takeAndInsideTakeBoth() {
        CostumeStock x = new CostumeStock();
        start();
        x.rack(2);
        x.wear(0);
        x.put(0, 0, 0);
        more(x, "put()", 1, 1);
        x.take(1, 0);
        x.inside(1, 0);
        more(x, "take(), inside(), 1", 0, 0);
        x.take(0, 2);
        more(x, "take(), 2", 1, 1);
        x.inside(0, 2);
        more(x, "inside(), 2", 1, 1);
        x.take(0, 1);
        more(x, "take(), 3", 1, 1);
        x.inside(0, 1);
        more(x, "inside(), 3", 1, 1);
        x.inside(0, 0);
        more(x, "inside()", 1, 1);
        x.take(0, 0);
        more(x, "take()", 1, 1);
    }

    private static void hireTakesBoth() {
        CostumeStock x = new CostumeStock();
        start();
        x.rack(2);
        x.wear(0);
        x.row(6, 1);
        x.put(0, 1, 1);
        more(x, "put()", 1, 1);
        x.hire(9, 0);
        more(x, "hire(), 10", 0, 0);
        x.hire(1, 0);
        more(x, "hire(), 4", 0, 0);
        x.hire(0, 0);
        more(x, "hire(), 8", 0, 0);
        x.put(0, 0, 0);
        more(x, "put()", 1, 1);
        x.hire(0, -1);
        more(x, "hire(), 6", 1, 1);
        x.hire(0, 5);
        more(x, "hire()", 1, 1);
    }

    private static void backTakesBoth() {
        CostumeStock x = new CostumeStock();
        start();
        x.rack(2);
        x.trunk(1);
        x.set();
        x.wear(0);
        x.put(0, 0, 0);
        x.hire(0, 5);
        x.put(0, 0, 2);
        more(x, "put(), hire(), put()", 3, 3);
        x.back(9, 0, 1, 0);
        more(x, "back(), 10", 0, 0);
        x.back(0, 9, 1, 0);
        more(x, "back(), 1", 0, 0);
        x.back(0, 0, 9, 0);
        more(x, "back(), 2", 1, 1);
        x.back(0, 0, 0, 0);
        more(x, "back(), 5", 1, 1);
        x.back(0, 1001, 0, 0);
        more(x, "back(), 4", 1, 1);
        x.back(0, 1000, 0, 0);
        more(x, "back(), 9", 1, 1);
        x.back(0, 0, 1, 6);
        more(x, "back(), 6", 1, 1);
        x.back(0, 0, 1, 5);
        more(x, "back()", 1, 1);
        x.back(0, 0, 1, 5);
        more(x, "back() of what is back", 0, 0);
    }

    private static void findTakesUpToWhereItFinds() {
        CostumeStock x = new CostumeStock();
        start();
        x.find(-1, 0);
        more(x, "find(), no racks", 1, 0);
        x.rack(3);
        x.rack(3);
        x.rack(3);
        x.find(-1, 0);
        more(x, "find(), 3", 1, 3);
        x.find(0, 0);
        more(x, "find(), 10", 0, 0);
        x.find(-1, 5);
        more(x, "find(), 6", 0, 0);
        x.trunk(2);
        x.trunk(2);
        x.wear(0);
        x.wear(1);
        x.wear(3);
        x.put(0, 1, 0);
        x.put(1000, 1, 1);
        x.put(1001, 0, 2);
        x.put(0, 2, 3);
        x.put(1, 0, 4);
        more(x, "five put()", 5, 5);
        x.find(-1, 0);
        more(x, "find() in the inner trunk", 1, 3);
        x.find(-1, 1);
        more(x, "find() behind the trunks", 1, 3);
        x.find(-1, 3);
        more(x, "find() on the second rack", 1, 4);
        x.find(-1, 4);
        more(x, "find() nowhere", 1, 5);
    }

    private static void findGoesIntoSets() {
        CostumeStock x = new CostumeStock();
        start();
        x.rack(3);
        x.set();
        x.wear(3);
        x.actor();
        x.put(0, 0, 0);
        x.put(1000, 0, 1);
        more(x, "two put()", 2, 2);
        x.find(-1, 4);
        more(x, "find() of the set itself", 1, 1);
        x.find(-1, 3);
        more(x, "find() in the set", 1, 2);
        // The SET is OPEN, so it is gone into.
        x.find(0, 4);
        more(x, "find() of a set that fits", 1, 2);
        x.size(1, 0, 10);
        x.measure(0, 0, 50);
        x.find(0, 4);
        more(x, "find() of the set, as it fits", 1, 1);
    }

    private static void countTakesEach() {
        CostumeStock x = new CostumeStock();
        start();
        x.rack(3);
        x.set();
        x.trunk(3);
        x.trunk(3);
        x.count(9);
        more(x, "count(), 1", 0, 0);
        x.count(0);
        more(x, "count(), empty", 1, 1);
        x.put(1001, 0, 0);
        x.put(1001, 2, 2);
        x.put(0, 2, 1);
        more(x, "three put()", 3, 3);
        x.count(0);
        more(x, "count(0)", 1, 4);
        x.count(1001);
        more(x, "count(1001)", 1, 3);
        x.count(1000);
        more(x, "count(1000)", 1, 1);
    }

    private static void plansTakeAllRacks() {
        CostumeStock x = new CostumeStock();
        start();
        x.plan();
        more(x, "plan(), no racks", 1, 0);
        x.rack(3);
        x.rack(3);
        x.plan();
        more(x, "plan(), no roles", 1, 2);
        x.least(0, 0);
        more(x, "least(), 10", 0, 0);
        x.actor();
        x.role(0, 0);
        x.least(0, 0);
        more(x, "least(), 10", 0, 0);
        x.plan();
        more(x, "plan(), 12", 1, 2);
        x.set();
        x.wear(3);
        x.least(0, 1);
        more(x, "least(), 12", 1, 2);
        x.size(1, 0, 10);
        x.measure(0, 0, 50);
        x.put(1000, 0, 1);
        x.put(0, 0, 0);
        more(x, "two put()", 2, 2);
        x.plan();
        more(x, "plan(), with a set", 1, 2);
        x.least(0, 0);
        more(x, "least(), with a set", 1, 2);
        x.rack(1);
        x.plan();
        more(x, "plan(), three racks", 1, 3);
    }

    private static void othersTakeNone() {
        CostumeStock x = new CostumeStock();
        start();
        x.rack(3);
        x.set();
        x.wear(3);
        x.actor();
        x.row(6, 1);
        x.put(1000, 0, 1);
        x.put(0, 0, 0);
        x.hire(0, 1);
        more(x, "two put(), hire()", 3, 3);
        x.undo();
        x.undo();
        x.undo();
        x.undo();
        more(x, "undo()", 0, 0);
        x.put(1000, 0, 1);
        more(x, "put()", 1, 1);
        x.fits(0, 0);
        x.cost(0, 0);
        x.minutes(0);
        x.wash(0);
        x.kind(1);
        x.state(1);
        x.holder(1);
        x.size(1, 0, 10);
        x.reach(1, 0, 1, 1);
        x.alter(1, 0, 1);
        x.sizeOf(1, 0, 0);
        x.measure(0, 0, 50);
        x.role(0, 0);
        x.scene(0, 1);
        x.dressOf(0);
        x.clear();
        x.write(2, 0, 1);
        x.value(2, 0);
        x.share(0, 1);
        x.purse();
        x.spent();
        x.status();
        x.digest();
        more(x, "all others", 0, 0);
    }

    private static void statusOfEach() {
        CostumeStock x = new CostumeStock();
        Due.answer("40: status()", x.status(), 0);
        x.undo();
        Due.answer("40: status()", x.status(), 11);
        Due.answer("40: status() again", x.status(), 11);
        // A call that is done sets it to 0, whichever it is.
        Due.done(x, "rack(1)", x.rack(1), 0);
        x.undo();
        Due.done(x, "wear(3)", x.wear(3), 0);
        x.undo();
        Due.done(x, "set()", x.set(), 1);
        x.undo();
        Due.done(x, "trunk(1)", x.trunk(1), 2);
        x.undo();
        Due.done(x, "row(7, 1)", x.row(7, 1), 3);
        x.undo();
        Due.done(x, "write(3, 0, 10)", x.write(3, 0, 10), 1);
        x.undo();
        Due.done(x, "value(3, 0)", x.value(3, 0), 1);
        x.undo();
        Due.done(x, "kind(0)", x.kind(0), 3);
        x.undo();
        Due.done(x, "state(0)", x.state(0), 0);
        x.undo();
        Due.done(x, "minutes(0)", x.minutes(0), 3);
        x.undo();
        Due.done(x, "wash(1)", x.wash(1), 1);
        x.undo();
        Due.done(x, "actor()", x.actor(), 0);
        x.undo();
        Due.done(x, "fits(0, 0)", x.fits(0, 0), 2);
        x.undo();
        Due.done(x, "sizeOf(0, 0, 0)", x.sizeOf(0, 0, 0), 0);
        x.undo();
        Due.done(x, "plan()", x.plan(), 0);
        x.undo();
        Due.done(x, "role(0, 0)", x.role(0, 0), 0);
        x.undo();
        Due.done(x, "scene(0, 0)", x.scene(0, 0), 0);
        x.undo();
        Due.done(x, "share(0, 1)", x.share(0, 1), 0);
        x.undo();
        Due.done(x, "count(0)", x.count(0), 0);
        x.undo();
        Due.done(x, "locks(2)", x.locks(2), 0);
    }

    /** clear(), purse(), spent(), status() and digest() can't be refused: the STATUS is that of before. */
    private static void statusStays() {
        CostumeStock x = new CostumeStock();
        x.rack(0);
        x.clear();
        Due.answer("40: status() after clear()", x.status(), 6);
        x.purse();
        Due.answer("40: status() after purse()", x.status(), 6);
        x.spent();
        Due.answer("40: status() after spent()", x.status(), 6);
        x.digest();
        Due.answer("40: status() after digest()", x.status(), 6);
    }

    private static void digests() {
        CostumeStock x = new CostumeStock();
        x.rack(2);
        x.rack(1);
        x.wear(1);
        x.set();
        x.row(8, 3);
        x.trunk(1);
        x.wear(3);
        for (int part = 0; part < 6; part++) {
            x.size(0, part, 10 + part);
        }
        x.reach(0, 1, 9, 9);
        x.alter(0, 1, 2);
        x.put(1001, 3, 0);
        x.put(0, 1, 1);
        x.put(1, 0, 3);
        x.put(0, 0, 4);
        x.hire(4, 77);
        int[] over = {
            1, 1, 1001, 10, 13, 12, 13, 14, 15,
            4, 1, 0,
            8, 0, -1,
            5, 1, 1,
            3, 2, -1, 0, 0, 0, 0, 0, 0,
            -1, 1,
            3,
            77, 8, 5, 5,
        };
        int d = 17;
        for (int n : over) {
            d = d * 31 + n;
        }
        Due.answer("41: digest()", x.digest(), d);
        Due.answer("41: digest() again", x.digest(), d);
    }

    /** Each of what it goes over changes it; what it does not go over does not. */
    private static void digestOfEach() {
        CostumeStock x = new CostumeStock();
        x.rack(2);
        x.wear(0);
        x.row(6, 1);
        x.actor();
        int d = x.digest();
        x.write(1, 0, 5);
        x.measure(0, 0, 5);
        x.reach(0, 0, 5, 5);
        x.role(0, 0);
        x.scene(0, 5);
        x.purse();
        x.locks(0);
        Due.answer("41: digest() goes over none of these", x.digest(), d);
        x.size(0, 5, 1);
        Due.answer("41: a SIZE", x.digest() == d ? 1 : 0, 0);
        x.undo();
        Due.answer("41: as before", x.digest(), d);
        x.put(0, 0, 0);
        int first = x.digest();
        x.take(0, 0);
        x.undo();
        x.take(0, 0);
        x.put(0, 1, 0);
        Due.answer("41: another SLOT, more LOCKS", x.digest() == first ? 1 : 0, 0);
    }
}
