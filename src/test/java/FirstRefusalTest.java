/**
 * Terms 6: "Of several the one that stands first with the call." - for each call that can be refused
 * for several reasons, each two of them that can come together.
 */
public final class FirstRefusalTest {
    private static final int BIG = Run.BIG;
    private static final int LOW = Run.LOW;
    /** THINGS of the house below. */
    private static final int MASK = 0;
    private static final int ROW = 1;
    private static final int SET = 2;
    private static final int TRUNK = 3;
    private static final int HELD = 4;
    private static final int EMPTY = 5;
    private static final int OUT = 6;
    private static final int OUT_TRUNK = 7;
    private static final int IN_SET = 8;
    private static final int IN_TRUNK = 9;
    private static final int SET_IN_TRUNK = 10;
    private static final int NO_THING = 11;

    public static void main(String[] args) {
        write();
        value();
        holder();
        put();
        take();
        inside();
        size();
        reach();
        alter();
        sizeOf();
        measure();
        fits();
        cost();
        washAndMinutes();
        role();
        least();
        hire();
        back();
        share();
        find();
        oneReasonForSeveral();
        Due.end();
    }

    /**
     * At hand: a MASK, FLOATS, a SET with a DRESS, a TRUNK with a COAT and a SET, an empty TRUNK; on the
     * RACK: a MASK; OUT: a MASK (HIRE 0), a TRUNK (HIRE 1).
     */
    private static Run house(String about) {
        Run x = new Run("first of several: " + about);
        x.done("rack", 3);
        x.done("wear", 3);
        x.done("row", 7, 1);
        x.done("set");
        x.done("trunk", 3);
        x.done("wear", 3);
        x.done("trunk", 1);
        x.done("wear", 3);
        x.done("trunk", 2);
        x.done("wear", 0);
        x.done("wear", 1);
        x.done("set");
        x.done("actor");
        x.done("put", 0, 0, HELD);
        x.done("put", 0, 1, OUT);
        x.done("put", 0, 2, OUT_TRUNK);
        x.done("put", 1000 + SET, 0, IN_SET);
        x.done("put", 1000 + TRUNK, 0, IN_TRUNK);
        x.done("put", 1000 + TRUNK, 1, SET_IN_TRUNK);
        x.done("hire", OUT, 10);
        x.done("hire", OUT_TRUNK, 10);
        return x;
    }

    /** Promise 7: "(10; 4; 2; 6: FLOATS, v is not -2 to 3000)" */
    private static void write() {
        Run x = house("write");
        x.refused(10, "write", NO_THING, -1, 3001);
        x.refused(10, "write", -1, 0, 3001);
        x.refused(10, "write", NO_THING, 0, 0);
        x.refused(4, "write", MASK, -1, 3001);
        x.refused(4, "write", SET, 0, 3001);
        x.refused(4, "write", TRUNK, 9, 0);
        x.refused(2, "write", ROW, 1, 3001);
        x.refused(2, "write", ROW, -1, -3);
        x.refused(6, "write", ROW, 0, -3);
    }

    /** Promise 8: "(10; 4; 2; 13)" */
    private static void value() {
        Run x = house("value");
        x.done("write", ROW, 0, -1);
        x.refused(10, "value", NO_THING, 1);
        x.refused(10, "value", -1, -1);
        x.refused(4, "value", MASK, 1);
        x.refused(4, "value", TRUNK, -1);
        x.refused(2, "value", ROW, 1);
        x.refused(2, "value", ROW, -1);
        x.refused(13, "value", ROW, 0);
    }

    /** Promise 11: "(10; 8)" */
    private static void holder() {
        Run x = house("holder");
        x.refused(10, "holder", NO_THING);
        x.refused(8, "holder", MASK);
        x.refused(8, "holder", OUT);
    }

    /** Promise 12: "(1; 10; 2; 8; 5; 4: it is not for a SET; 9)" */
    private static void put() {
        Run x = house("put");
        x.refused(1, "put", 1, 0, NO_THING);
        x.refused(1, "put", 1000 + MASK, 9, -1);
        x.refused(1, "put", 1, 0, HELD);
        x.refused(1, "put", -1, -1, MASK);
        x.refused(10, "put", 0, 3, NO_THING);
        x.refused(10, "put", 0, 0, NO_THING);
        x.refused(10, "put", 1000 + SET, -1, -1);
        x.refused(2, "put", 0, 3, HELD);
        x.refused(2, "put", 0, -1, OUT);
        x.refused(2, "put", 1000 + SET, 6, TRUNK);
        x.refused(2, "put", 1000 + SET, 6, ROW);
        x.refused(2, "put", 1000 + TRUNK, 3, TRUNK);
        x.refused(2, "put", 1000 + TRUNK, -1, TRUNK);
        x.refused(8, "put", 0, 0, HELD);
        x.refused(8, "put", 0, 0, OUT);
        x.refused(8, "put", 1000 + SET, 1, OUT_TRUNK);
        x.refused(8, "put", 1000 + SET, 0, SET_IN_TRUNK);
        x.refused(8, "put", 1000 + OUT_TRUNK, 0, OUT_TRUNK);
        x.refused(5, "put", 1000 + SET, 0, ROW);
        x.refused(5, "put", 1000 + SET, 0, SET);
        x.refused(5, "put", 1000 + TRUNK, 0, TRUNK);
        x.refused(5, "put", 0, 0, MASK);
        // A TRUNK that has the SET in it: it is not for a SET, and it would stand in itself.
        x.refused(4, "put", 1000 + SET_IN_TRUNK, 0, TRUNK);
        x.refused(4, "put", 1000 + SET, 1, SET);
        x.refused(9, "put", 1000 + TRUNK, 2, TRUNK);
        // A SET in the sixth TRUNK: another TRUNK is too deep there, and not for a SET.
        int holder = 1000 + TRUNK;
        for (int k = 0; k < 5; k++) {
            int trunk = x.done("trunk", 2);
            x.done("put", holder, k == 0 ? 2 : 0, trunk);
            holder = 1000 + trunk;
        }
        int set = x.done("set");
        x.done("put", holder, 1, set);
        x.refused(4, "put", 1000 + set, 0, EMPTY);
        x.refused(5, "put", holder, 1, EMPTY);
        x.refused(2, "put", holder, 2, EMPTY);
        x.refused(9, "put", holder, 0, EMPTY);
    }

    /** Promise 13: "(1; 2; 3)" */
    private static void take() {
        Run x = house("take");
        x.refused(1, "take", 1, 3);
        x.refused(1, "take", 1000 + MASK, -1);
        x.refused(2, "take", 0, 3);
        x.refused(2, "take", 1000 + EMPTY, 1);
        x.refused(3, "take", 1000 + EMPTY, 0);
    }

    /** Promise 14: "(1; 2; 3)" */
    private static void inside() {
        Run x = house("inside");
        x.refused(1, "inside", 1, 3);
        x.refused(1, "inside", 1000 + ROW, -1);
        x.refused(2, "inside", 0, 3);
        x.refused(2, "inside", 1000 + EMPTY, -1);
        x.refused(3, "inside", 1000 + EMPTY, 0);
    }

    /** Promise 15: "(10; 4; 2; 6)" */
    private static void size() {
        Run x = house("size");
        x.refused(10, "size", NO_THING, 6, 256);
        x.refused(10, "size", -1, 0, -1);
        x.refused(4, "size", SET, 6, 256);
        x.refused(4, "size", ROW, 0, 256);
        x.refused(4, "size", TRUNK, -1, 0);
        x.refused(2, "size", MASK, 6, 256);
        x.refused(2, "size", MASK, -1, -1);
        x.refused(6, "size", MASK, 5, 256);
    }

    /** Promise 16: "(10; 4; 2; 6)" */
    private static void reach() {
        Run x = house("reach");
        x.refused(10, "reach", NO_THING, 6, 61, 61);
        x.refused(10, "reach", -1, 0, -1, 0);
        x.refused(4, "reach", SET, 6, 61, 61);
        x.refused(4, "reach", ROW, 0, 0, 61);
        x.refused(4, "reach", TRUNK, -1, 0, 0);
        x.refused(2, "reach", MASK, 6, 61, 0);
        x.refused(2, "reach", MASK, -1, 0, 61);
        x.refused(6, "reach", MASK, 5, 0, 61);
    }

    /** Promise 17: "(10; 4; 2; 12: the SIZE is not told; 6: ..)" */
    private static void alter() {
        Run x = house("alter");
        x.refused(10, "alter", NO_THING, 6, 256);
        x.refused(10, "alter", -1, 0, 0);
        x.refused(4, "alter", SET, 6, 256);
        x.refused(4, "alter", TRUNK, 0, 1);
        x.refused(4, "alter", ROW, -1, 0);
        x.refused(2, "alter", MASK, 6, 256);
        x.refused(2, "alter", MASK, -1, 0);
        x.refused(12, "alter", MASK, 5, 256);
        x.refused(12, "alter", MASK, 0, LOW);
        x.done("size", MASK, 5, 1);
        x.refused(6, "alter", MASK, 5, 256);
    }

    /** Promise 18: "(10; 4; 2; 6: what)" */
    private static void sizeOf() {
        Run x = house("sizeOf");
        x.refused(10, "sizeOf", NO_THING, 6, 3);
        x.refused(10, "sizeOf", -1, 0, -1);
        x.refused(4, "sizeOf", SET, 6, 3);
        x.refused(4, "sizeOf", TRUNK, 0, 3);
        x.refused(4, "sizeOf", ROW, -1, 0);
        x.refused(2, "sizeOf", MASK, 6, 3);
        x.refused(2, "sizeOf", MASK, -1, -1);
        x.refused(6, "sizeOf", MASK, 5, 3);
    }

    /** Promise 20: "(10; 2; 6: v is not -2 to 3000)" */
    private static void measure() {
        Run x = house("measure");
        x.refused(10, "measure", 1, 6, 3001);
        x.refused(10, "measure", -1, 0, 3001);
        x.refused(10, "measure", 1, -1, 0);
        x.refused(2, "measure", 0, 6, 3001);
        x.refused(2, "measure", 0, -1, -3);
        x.refused(6, "measure", 0, 5, -3);
    }

    /** Promise 21: "(10: ACTOR, THING; 4: no WEAR)" */
    private static void fits() {
        Run x = house("fits");
        x.refused(10, "fits", 1, NO_THING);
        x.refused(10, "fits", 1, TRUNK);
        x.refused(10, "fits", -1, ROW);
        x.refused(10, "fits", 0, NO_THING);
        x.refused(4, "fits", 0, TRUNK);
    }

    /** Promise 22: "(10; 4; 12)" */
    private static void cost() {
        Run x = house("cost");
        x.refused(10, "cost", 1, NO_THING);
        x.refused(10, "cost", 1, TRUNK);
        x.refused(10, "cost", -1, ROW);
        x.refused(10, "cost", 1, MASK);
        x.refused(10, "cost", 0, NO_THING);
        x.refused(4, "cost", 0, TRUNK);
        x.refused(4, "cost", 0, ROW);
        x.refused(12, "cost", 0, MASK);
        x.refused(12, "cost", 0, SET_IN_TRUNK);
    }

    /** Promises 23, 24: "(10; 4)", "(10; 4: a MASK, too)" */
    private static void washAndMinutes() {
        Run x = house("minutes, wash");
        x.refused(10, "minutes", NO_THING);
        x.refused(4, "minutes", TRUNK);
        x.refused(10, "wash", NO_THING);
        x.refused(4, "wash", MASK);
        x.refused(4, "wash", ROW);
    }

    /** Promise 25: "(10; 6: the SCENE, no room; 5: the ACTOR has one in this SCENE)" */
    private static void role() {
        Run x = house("role");
        x.refused(10, "role", 1, 10);
        x.refused(10, "role", -1, -1);
        x.done("role", 0, 0);
        x.refused(5, "role", 0, 0);
        x.refused(10, "role", 1, 0);
        for (int scene = 1; scene < 7; scene++) {
            x.done("role", 0, scene);
        }
        x.refused(10, "role", 1, 0);
        x.refused(10, "role", -1, 10);
        x.refused(6, "role", 0, 0);
        x.refused(6, "role", 0, 10);
        x.refused(6, "role", 0, 7);
    }

    /** Promise 30: "(10: no such ROLE, THING; 12: there is none)" */
    private static void least() {
        Run x = house("least");
        x.refused(10, "least", 0, NO_THING);
        x.refused(10, "least", 0, MASK);
        x.done("role", 0, 0);
        x.refused(10, "least", 1, NO_THING);
        x.refused(10, "least", 1, MASK);
        x.refused(10, "least", 0, NO_THING);
        x.refused(12, "least", 0, MASK);
        x.refused(12, "least", 0, HELD);
    }

    /** Promise 31: "(10; 4: ROWS; 8; 6: cents are not 0 to 1000000, no room)" */
    private static void hire() {
        Run x = house("hire");
        x.refused(10, "hire", NO_THING, -1);
        x.refused(10, "hire", -1, 1000001);
        x.refused(4, "hire", ROW, -1);
        x.refused(4, "hire", ROW, 0);
        x.done("put", 0, 1, ROW);
        x.refused(4, "hire", ROW, 1000001);
        x.refused(8, "hire", MASK, -1);
        x.refused(8, "hire", OUT, 1000001);
        x.refused(8, "hire", OUT_TRUNK, BIG);
        x.refused(6, "hire", HELD, -1);
    }

    /** Promise 32: "(10: ..; 1; 2; 5; 4, 9: as put(); 6: not 0 to the deposit)" - HIRE 0 is of a MASK, HIRE 1 of a TRUNK. */
    private static void back() {
        Run x = house("back");
        x.refused(10, "back", 2, 1, 3, 11);
        x.refused(10, "back", -1, 0, 3, 0);
        x.refused(10, "back", 2, 0, 0, 0);
        x.refused(10, "back", 2, 0, 1, -1);
        x.refused(1, "back", 0, 1, 3, 11);
        x.refused(1, "back", 1, 1000 + MASK, 0, -1);
        x.refused(1, "back", 0, -1, -1, 0);
        x.refused(2, "back", 0, 0, 3, 11);
        x.refused(2, "back", 1, 1000 + SET, 6, 0);
        x.refused(2, "back", 1, 1000 + OUT_TRUNK, 2, 0);
        x.refused(2, "back", 1, 1000 + OUT_TRUNK, -1, -1);
        x.refused(5, "back", 0, 0, 0, 11);
        x.refused(5, "back", 1, 1000 + SET, 0, 0);
        x.refused(5, "back", 1, 1000 + SET, 0, 11);
        x.done("put", 1000 + OUT_TRUNK, 0, MASK);
        x.refused(5, "back", 1, 1000 + OUT_TRUNK, 0, 0);
        x.refused(5, "back", 1, 1000 + OUT_TRUNK, 0, -1);
        x.refused(4, "back", 1, 1000 + SET, 1, 11);
        x.refused(4, "back", 1, 1000 + SET_IN_TRUNK, 0, -1);
        x.done("take", 1000 + TRUNK, 1);
        x.done("put", 1000 + OUT_TRUNK, 1, SET_IN_TRUNK);
        // The SET is in the TRUNK that comes back: not for a SET, and it would stand in itself.
        x.refused(4, "back", 1, 1000 + SET_IN_TRUNK, 0, 0);
        x.done("take", 1000 + OUT_TRUNK, 1);
        x.refused(9, "back", 1, 1000 + OUT_TRUNK, 1, 11);
        x.refused(9, "back", 1, 1000 + OUT_TRUNK, 1, -1);
        x.refused(6, "back", 1, 1000 + TRUNK, 2, 11);
        x.refused(6, "back", 0, 0, 1, -1);
        x.gives(0, "back", 0, 0, 1, 10);
        x.refused(10, "back", 0, 1, 3, 11);
        x.refused(10, "back", 0, 0, 2, 11);
    }

    /** Promise 35: "(7: n is 0; 6: below 0; 2: no such rank)" */
    private static void share() {
        Run x = house("share");
        x.refused(7, "share", 0, 0);
        x.refused(7, "share", -1, 0);
        x.refused(6, "share", 0, -1);
        x.refused(6, "share", -1, -1);
        x.refused(6, "share", LOW, LOW);
        x.refused(2, "share", 1, 1);
    }

    /** Promise 36: "(10: ACTOR; 6: KIND; 3: there is none)" */
    private static void find() {
        Run x = house("find");
        x.refused(10, "find", 1, 5);
        x.refused(10, "find", -2, -1);
        x.refused(10, "find", 1, 4);
        x.refused(10, "find", 1, 3);
        x.refused(6, "find", 0, 5);
        x.refused(6, "find", -1, -1);
        x.refused(3, "find", 0, 3);
        x.refused(3, "find", -1, 4);
    }

    /** "6 a number is not as told, or there is no room": the same for the one and the other. */
    private static void oneReasonForSeveral() {
        Run x = new Run("first of several: 6");
        for (int r = 0; r < 12; r++) {
            x.done("rack", 1);
        }
        x.refused(6, "rack", 0);
        x.refused(6, "rack", 1);
        for (int t = 0; t < 200; t++) {
            x.done("wear", 3);
        }
        x.refused(6, "wear", 4);
        x.refused(6, "trunk", 21);
        x.refused(6, "row", 9, 41);
        x.refused(6, "scene", 10, 91);
        x.refused(6, "reach", 0, 0, 61, 61);
    }
}
