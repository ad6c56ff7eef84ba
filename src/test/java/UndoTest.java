/** Promise 38: undo. */
public final class UndoTest {
    public static void main(String[] args) {
        nothingToUndo();
        putAndTake();
        sizesAndReach();
        alters();
        measures();
        hires();
        backs();
        backAgainAfterUndo();
        refusedCallsAreNoneOfThese();
        otherCallsStay();
        noStepsAreDoneToo();
        takenBackInTurn();
        trunksWithAllInThem();
        manyToUndo();
        Due.end();
    }

    private static void nothingToUndo() {
        CostumeStock x = new CostumeStock();
        Due.refused(x, "38: undo()", x.undo(), 11);
        x.rack(1);
        x.wear(0);
        x.put(0, 0, 0);
        Due.done(x, "38: undo()", x.undo(), 1);
        Due.refused(x, "38: undo()", x.undo(), 11);
        Due.refused(x, "38: undo()", x.undo(), 11);
        Due.done(x, "12: put(0, 0, 0)", x.put(0, 0, 0), 1);
    }

    private static void putAndTake() {
        CostumeStock x = new CostumeStock();
        x.rack(2);
        x.set();
        x.wear(0);
        x.put(1000, 4, 1);
        x.put(0, 1, 0);
        x.take(1000, 4);
        Due.done(x, "38: take() undone", x.undo(), 1);
        Due.done(x, "38: inside(1000, 4)", x.inside(1000, 4), 1);
        Due.done(x, "38: state(1)", x.state(1), 1);
        Due.done(x, "38: holder(1)", x.holder(1), 1000);
        Due.done(x, "38: put() undone", x.undo(), 1);
        Due.refused(x, "38: inside(0, 1)", x.inside(0, 1), 3);
        Due.done(x, "38: state(0)", x.state(0), 0);
        Due.refused(x, "38: holder(0)", x.holder(0), 8);
        Due.done(x, "38: put() undone", x.undo(), 1);
        Due.done(x, "38: state(1)", x.state(1), 0);
        Due.done(x, "38: count(1000)", x.count(1000), 0);
    }

    private static void sizesAndReach() {
        CostumeStock x = new CostumeStock();
        x.wear(1);
        x.size(0, 2, 50);
        x.size(0, 2, 60);
        x.size(0, 3, 70);
        x.reach(0, 2, 5, 6);
        x.reach(0, 2, 7, 8);
        Due.done(x, "38: reach() undone", x.undo(), 1);
        Due.done(x, "38: IN", x.sizeOf(0, 2, 1), 5);
        Due.done(x, "38: OUT", x.sizeOf(0, 2, 2), 6);
        Due.done(x, "38: reach() undone", x.undo(), 1);
        Due.done(x, "38: IN", x.sizeOf(0, 2, 1), 0);
        Due.done(x, "38: OUT", x.sizeOf(0, 2, 2), 0);
        Due.done(x, "38: size() undone", x.undo(), 1);
        Due.done(x, "38: SIZE of 3", x.sizeOf(0, 3, 0), 0);
        Due.done(x, "38: SIZE of 2", x.sizeOf(0, 2, 0), 60);
        Due.done(x, "38: size() undone", x.undo(), 1);
        Due.done(x, "38: SIZE of 2", x.sizeOf(0, 2, 0), 50);
        Due.done(x, "38: size() undone", x.undo(), 1);
        Due.done(x, "38: SIZE of 2", x.sizeOf(0, 2, 0), 0);
    }

    private static void alters() {
        CostumeStock x = new CostumeStock();
        x.wear(1);
        x.size(0, 2, 50);
        x.reach(0, 2, 5, 6);
        x.alter(0, 2, 3);
        x.alter(0, 2, -4);
        Due.answer("34: spent()", x.spent(), 10 + 12);
        Due.done(x, "38: alter() undone", x.undo(), 1);
        Due.answer("38: spent()", x.spent(), 10);
        Due.done(x, "38: SIZE", x.sizeOf(0, 2, 0), 53);
        Due.done(x, "38: IN", x.sizeOf(0, 2, 1), 8);
        Due.done(x, "38: OUT", x.sizeOf(0, 2, 2), 3);
        Due.done(x, "38: alter() undone", x.undo(), 1);
        Due.answer("38: spent()", x.spent(), 0);
        Due.done(x, "38: SIZE", x.sizeOf(0, 2, 0), 50);
        Due.done(x, "38: IN", x.sizeOf(0, 2, 1), 5);
        Due.done(x, "38: OUT", x.sizeOf(0, 2, 2), 6);
    }

    private static void measures() {
        CostumeStock x = new CostumeStock();
        x.wear(3);
        x.size(0, 0, 100);
        x.actor();
        x.measure(0, 0, 500);
        x.measure(0, 0, -2);
        Due.done(x, "21: fits(0, 0)", x.fits(0, 0), 0);
        Due.done(x, "38: measure() undone", x.undo(), 1);
        Due.done(x, "38: fits(0, 0)", x.fits(0, 0), 1);
        Due.done(x, "38: measure() undone", x.undo(), 1);
        Due.done(x, "38: fits(0, 0), NONE", x.fits(0, 0), 2);
        Due.done(x, "38: size() undone", x.undo(), 1);
        Due.refused(x, "38: undo()", x.undo(), 11);
    }

    private static void hires() {
        CostumeStock x = new CostumeStock();
        x.rack(3);
        x.wear(3);
        x.wear(3);
        x.put(0, 2, 0);
        x.put(0, 1, 1);
        x.hire(1, 40);
        x.hire(0, 50);
        Due.done(x, "38: hire() undone", x.undo(), 1);
        Due.answer("38: purse()", x.purse(), 40);
        Due.done(x, "38: state(0)", x.state(0), 1);
        Due.done(x, "38: inside(0, 2)", x.inside(0, 2), 0);
        Due.done(x, "38: state(1)", x.state(1), 2);
        Due.refused(x, "38: back(1, ..)", x.back(1, 0, 0, 0), 10);
        Due.done(x, "38: back(0, ..)", x.back(0, 0, 0, 0), 40);
        Due.done(x, "38: hire(0, 1)", x.hire(0, 1), 2);
    }

    private static void backs() {
        CostumeStock x = new CostumeStock();
        x.rack(3);
        x.wear(3);
        x.put(0, 2, 0);
        x.hire(0, 50);
        x.back(0, 0, 1, 20);
        Due.answer("33: purse()", x.purse(), 20);
        Due.done(x, "38: back() undone", x.undo(), 1);
        Due.answer("38: purse()", x.purse(), 50);
        Due.done(x, "38: state(0)", x.state(0), 2);
        Due.refused(x, "38: inside(0, 1)", x.inside(0, 1), 3);
        Due.refused(x, "38: inside(0, 2)", x.inside(0, 2), 3);
        Due.done(x, "38: hire() undone", x.undo(), 1);
        Due.answer("38: purse()", x.purse(), 0);
        Due.done(x, "38: inside(0, 2)", x.inside(0, 2), 0);
        Due.refused(x, "38: back() of what was undone", x.back(0, 0, 1, 0), 10);
    }

    private static void backAgainAfterUndo() {
        CostumeStock x = new CostumeStock();
        x.rack(3);
        x.wear(3);
        x.put(0, 2, 0);
        x.hire(0, 50);
        x.back(0, 0, 1, 20);
        x.undo();
        // It is not back any more, and the HIRE itself was not undone.
        Due.done(x, "32: back() again", x.back(0, 0, 0, 30), 20);
        Due.answer("33: purse()", x.purse(), 30);
        Due.done(x, "14: inside(0, 0)", x.inside(0, 0), 0);
        Due.done(x, "38: undo()", x.undo(), 1);
        Due.answer("38: purse()", x.purse(), 50);
    }

    private static void refusedCallsAreNoneOfThese() {
        CostumeStock x = new CostumeStock();
        x.rack(1);
        x.wear(3);
        x.actor();
        x.put(0, 0, 0);
        x.put(0, 0, 0);
        x.take(0, 5);
        x.size(0, 0, 256);
        x.reach(0, 0, 61, 0);
        x.alter(0, 0, 1);
        x.measure(0, 0, 3001);
        x.hire(0, -1);
        x.back(0, 0, 0, 0);
        Due.done(x, "38: put() undone", x.undo(), 1);
        Due.done(x, "38: state(0)", x.state(0), 0);
        Due.refused(x, "38: undo()", x.undo(), 11);
    }

    private static void otherCallsStay() {
        CostumeStock x = new CostumeStock();
        x.rack(4);
        x.wear(3);
        x.put(0, 0, 0);
        x.row(6, 2);
        x.set();
        x.trunk(2);
        x.actor();
        x.write(1, 0, 7);
        x.role(0, 3);
        x.scene(3, 30);
        x.plan();
        x.find(-1, 3);
        x.count(0);
        x.inside(0, 0);
        x.locks(0);
        x.share(0, 1);
        Due.done(x, "38: put() undone", x.undo(), 1);
        Due.done(x, "38: state(0)", x.state(0), 0);
        Due.refused(x, "38: undo()", x.undo(), 11);
        Due.done(x, "38: kind(3)", x.kind(3), 5);
        Due.done(x, "38: value(1, 0)", x.value(1, 0), 7);
        Due.done(x, "38: scene(3, 1)", x.scene(3, 1), 30);
        Due.answer("38: clear()", x.clear(), 1);
        Due.done(x, "38: measure(0, 0, 1)", x.measure(0, 0, 1), 1);
    }

    private static void noStepsAreDoneToo() {
        CostumeStock x = new CostumeStock();
        x.wear(1);
        x.size(0, 2, 50);
        x.size(0, 2, 50);
        x.alter(0, 2, 0);
        Due.done(x, "38: alter() undone", x.undo(), 1);
        Due.done(x, "38: SIZE", x.sizeOf(0, 2, 0), 50);
        Due.done(x, "38: size() undone", x.undo(), 1);
        Due.done(x, "38: SIZE", x.sizeOf(0, 2, 0), 50);
        Due.done(x, "38: size() undone", x.undo(), 1);
        Due.done(x, "38: SIZE", x.sizeOf(0, 2, 0), 0);
        Due.refused(x, "38: undo()", x.undo(), 11);
    }

    private static void takenBackInTurn() {
        CostumeStock x = new CostumeStock();
        x.rack(2);
        x.wear(3);
        x.put(0, 0, 0);
        x.take(0, 0);
        x.undo();
        x.size(0, 0, 9);
        // What was taken back is not there to be taken back again: size(), then put().
        Due.done(x, "38: size() undone", x.undo(), 1);
        Due.done(x, "38: SIZE", x.sizeOf(0, 0, 0), 0);
        Due.done(x, "38: state(0)", x.state(0), 1);
        Due.done(x, "38: put() undone", x.undo(), 1);
        Due.done(x, "38: state(0)", x.state(0), 0);
        Due.refused(x, "38: undo()", x.undo(), 11);
    }

    private static void trunksWithAllInThem() {
        CostumeStock x = new CostumeStock();
        x.rack(2);
        x.trunk(2);
        x.trunk(2);
        x.put(1000, 0, 1);
        x.put(0, 0, 0);
        x.hire(0, 5);
        x.take(1000, 0);
        x.put(0, 0, 1);
        x.back(0, 1001, 1, 5);
        Due.done(x, "38: count(0)", x.count(0), 2);
        Due.done(x, "38: back() undone", x.undo(), 1);
        Due.done(x, "38: count(0)", x.count(0), 1);
        Due.done(x, "38: put() undone", x.undo(), 1);
        Due.done(x, "38: take() undone", x.undo(), 1);
        Due.done(x, "38: holder(1)", x.holder(1), 1000);
        Due.done(x, "38: hire() undone", x.undo(), 1);
        Due.done(x, "38: count(0)", x.count(0), 2);
        Due.done(x, "38: inside(0, 0)", x.inside(0, 0), 0);
    }

    private static void manyToUndo() {
        CostumeStock x = new CostumeStock();
        x.wear(0);
        for (int n = 1; n <= 250; n++) {
            x.size(0, 0, n);
        }
        for (int n = 249; n >= 0; n--) {
            Due.answer("38: undo()", x.undo(), 1);
        }
        Due.done(x, "38: SIZE", x.sizeOf(0, 0, 0), 0);
        Due.refused(x, "38: undo()", x.undo(), 11);
        x = new CostumeStock();
        x.actor();
        for (int n = 0; n < 509; n++) {
            x.measure(0, 0, n);
        }
        Due.done(x, "38: undo(), call 511", x.undo(), 1);
        Due.answer("38: undo(), call 512", x.undo(), 1);
    }
}
