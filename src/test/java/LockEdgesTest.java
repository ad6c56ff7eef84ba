import java.math.BigInteger;
import java.util.ArrayList;
import java.util.List;

/**
 * Terms 5 and 6 and promises 39 to 41 (locks, status, digest): a test for each sentence that names a
 * boundary. The LOCKS of refused calls are looked at by Run, at each refusal in all tests.
 */
public final class LockEdgesTest {
    private static final int BIG = Run.BIG;
    private static final int LOW = Run.LOW;

    public static void main(String[] args) {
        locksAreAskedByZeroToTwo();
        bothOnceIfDone();
        bothOnceIfRefused();
        noneIfRefusedAhead();
        findUpToWhereItFinds();
        findThroughAllHolders();
        findDownToTheLast();
        countEachHolderOnce();
        countAFullTrunk();
        plansTakeAllRacks();
        undoTakesNone();
        othersTakeNone();
        statusIsZeroAtFirst();
        everyStatusThereIs();
        statusIsZeroAfterWhatIsDone();
        statusStaysWhereNothingIsRefused();
        digestOfNothing();
        digestOfEachThing();
        digestOfEachRack();
        digestOfPurseSpentAndLocks();
        digestWrapsAround();
        digestChangesNothing();
        Due.end();
    }

    /** Promise 39: "How often the house's LOCK (0) was taken so far, or HOLDERS' (1); how many are taken now (2). (6)" */
    private static void locksAreAskedByZeroToTwo() {
        Run x = new Run("39: locks");
        for (int what = 0; what < 3; what++) {
            x.gives(0, "locks", what);
        }
        for (int what : new int[] {-1, 3, BIG, LOW}) {
            x.refused(6, "locks", what);
        }
        x.done("rack", 1);
        x.refused(3, "find", -1, 0);
        x.gives(1, "locks", 0);
        x.gives(1, "locks", 1);
        x.gives(0, "locks", 2);
    }

    /** "put(), take(), inside(), hire(), back() take both once" */
    private static void bothOnceIfDone() {
        Run x = new Run("both once");
        x.done("rack", 1);
        x.done("trunk", 1);
        x.done("wear", 3);
        int n = 0;
        for (int h : new int[] {0, 1000}) {
            x.gives(1, "put", h, 0, 1);
            x.locked(++n, n);
            x.gives(1, "inside", h, 0);
            x.locked(++n, n);
            x.done("hire", 1, 0);
            x.locked(++n, n);
            x.gives(0, "back", h == 0 ? 0 : 1, h, 0, 0);
            x.locked(++n, n);
            x.gives(1, "take", h, 0);
            x.locked(++n, n);
        }
    }

    /** "if all that stands in their refusals ahead of 2 (hire(): ahead of 6) does not refuse them (..). Each is left again on every way." */
    private static void bothOnceIfRefused() {
        Run x = new Run("both once, though refused");
        x.done("rack", 1);
        x.done("set");
        x.done("trunk", 1);
        x.done("wear", 3);
        x.done("put", 0, 0, 1);
        x.done("hire", 1, 5);
        x.done("put", 0, 0, 2);
        int n = 3;
        Object[][] refused = {
            {2, "put", 0, 1, 0}, {2, "put", 0, -1, 0}, {8, "put", 1001, 0, 1}, {8, "put", 1001, 0, 2}, {5, "put", 0, 0, 0},
            {4, "put", 1000, 0, 0}, {2, "take", 0, 1}, {2, "take", 0, -1}, {3, "take", 1000, 5}, {2, "inside", 0, 1},
            {2, "inside", 0, -1}, {3, "inside", 1000, 5}, {6, "hire", 2, -1}, {6, "hire", 2, 1000001}, {2, "back", 0, 0, 1, 0},
            {2, "back", 0, 0, -1, 0}, {5, "back", 0, 0, 0, 0}, {4, "back", 0, 1000, 0, 0}, {9, "back", 0, 1001, 0, 0},
        };
        for (Object[] call : refused) {
            refuse(x, call);
            x.locked(++n, n);
        }
        x.done("take", 0, 0);
        n++;
        x.refused(6, "back", 0, 0, 0, 6);
        x.locked(++n, n);
        x.refused(6, "back", 0, 0, 0, -1);
        x.locked(++n, n);
        x.done("back", 0, 0, 0, 5);
        x.done("take", 0, 0);
        n += 2;
        x.refused(9, "put", 1001, 0, 1);
        x.locked(++n, n);
    }

    private static void refuse(Run x, Object[] call) {
        int[] args = new int[call.length - 2];
        for (int k = 0; k < args.length; k++) {
            args[k] = (Integer) call[k + 2];
        }
        x.refused((Integer) call[0], (String) call[1], args);
    }

    /** The same: what is refused ahead of them takes none. */
    private static void noneIfRefusedAhead() {
        Run x = new Run("none, refused ahead");
        x.done("rack", 1);
        x.done("row", 6, 1);
        x.done("wear", 3);
        x.done("actor");
        x.done("put", 0, 0, 0);
        Object[][] refused = {
            {1, "put", 1, 0, 1}, {1, "put", 1000, 0, 1}, {10, "put", 0, 0, 2}, {10, "put", 0, 9, -1}, {1, "take", 1, 0},
            {1, "take", 1001, 0}, {1, "inside", -1, 0}, {1, "inside", 999, 9}, {10, "hire", 2, 0}, {4, "hire", 0, 0},
            {8, "hire", 1, 0}, {8, "hire", 1, -1}, {10, "back", 0, 0, 0, 0}, {10, "find", 1, 0}, {10, "find", -2, 9},
            {6, "find", -1, 5}, {6, "find", 0, -1}, {1, "count", 1}, {1, "count", 1001}, {10, "least", 0, 0},
        };
        for (Object[] call : refused) {
            refuse(x, call);
            x.locked(1, 1);
        }
        x.done("role", 0, 0);
        x.refused(10, "least", 0, 2);
        x.refused(10, "least", 1, 0);
        x.locked(1, 1);
        x.done("take", 0, 0);
        x.done("put", 0, 0, 1);
        x.done("hire", 1, 0);
        x.locked(4, 4);
        x.refused(1, "back", 0, 1, 0, 0);
        x.refused(1, "back", 0, 1000, 9, -1);
        x.locked(4, 4);
    }

    /** "that of each HOLDER into which they look once (find(): up to where it finds ..)" */
    private static void findUpToWhereItFinds() {
        Run x = new Run("find(), up to where it finds");
        for (int r = 0; r < 12; r++) {
            x.done("rack", 2);
        }
        x.done("wear", 3);
        int house = 0;
        int holders = 0;
        for (int r = 11; r >= 0; r--) {
            for (int s = 0; s < 2; s++) {
                x.done("put", r, s, 0);
                x.gives(0, "find", -1, 3);
                x.done("take", r, s);
                house += 3;
                holders += 2 + r + 1;
                x.is(house, "locks", 0);
                x.is(holders, "locks", 1);
            }
        }
        x.refused(3, "find", -1, 3);
        x.locked(house + 1, holders + 12);
    }

    /** The same, with SETS and TRUNKS before and behind it. */
    private static void findThroughAllHolders() {
        Run x = new Run("find(), through SETS and TRUNKS");
        x.done("rack", 5);
        x.done("set");
        x.done("trunk", 2);
        x.done("trunk", 2);
        x.done("wear", 3);
        x.done("wear", 0);
        x.done("wear", 1);
        x.done("put", 0, 0, 0);
        x.done("put", 0, 1, 1);
        x.done("put", 1001, 1, 2);
        x.done("put", 1002, 0, 4);
        x.done("put", 0, 3, 3);
        x.locked(5, 5);
        x.gives(0, "find", -1, 4);
        x.locked(6, 6);
        // The RACK, the SET, the outer TRUNK, the inner one.
        x.gives(4, "find", -1, 0);
        x.locked(7, 10);
        // All of them stand before it.
        x.gives(3, "find", -1, 3);
        x.locked(8, 14);
        x.done("put", 1000, 5, 5);
        x.gives(5, "find", -1, 0);
        x.locked(10, 17);
        x.refused(3, "find", -1, 2);
        x.locked(11, 21);
        // A SET that does not FIT is gone into; one that does is found before that.
        x.done("actor");
        x.refused(3, "find", 0, 4);
        x.locked(12, 25);
        for (int part : new int[] {1, 2, 4}) {
            x.done("size", 5, part, 100);
            x.done("measure", 0, part, 500);
        }
        x.gives(0, "find", 0, 4);
        x.locked(13, 26);
    }

    /** The same, six TRUNKS and a SET down. */
    private static void findDownToTheLast() {
        Run x = new Run("find(), to the last");
        x.done("rack", 1);
        int holder = 0;
        for (int k = 0; k < 6; k++) {
            int trunk = x.done("trunk", 1);
            x.done("put", holder, 0, trunk);
            holder = 1000 + trunk;
        }
        x.done("put", holder, 0, x.done("set"));
        x.done("put", 1006, 0, x.done("wear", 3));
        x.locked(8, 8);
        x.gives(7, "find", -1, 3);
        x.locked(9, 16);
        x.gives(6, "find", -1, 4);
        x.locked(10, 23);
        x.refused(3, "find", -1, 0);
        x.locked(11, 31);
        x.gives(8, "count", 0);
        x.locked(12, 39);
    }

    /** "that of each HOLDER into which they look once": count(). */
    private static void countEachHolderOnce() {
        Run x = new Run("count(), each once");
        x.done("rack", 3);
        x.done("rack", 3);
        x.done("trunk", 3);
        x.done("set");
        x.done("row", 6, 1);
        x.gives(0, "count", 0);
        x.locked(1, 1);
        x.done("put", 0, 0, 0);
        x.done("put", 1000, 2, 1);
        x.done("put", 0, 2, 2);
        x.locked(4, 4);
        x.gives(3, "count", 0);
        x.locked(5, 7);
        x.gives(1, "count", 1000);
        x.locked(6, 9);
        x.gives(0, "count", 1001);
        x.locked(7, 10);
        x.gives(0, "count", 1);
        x.locked(8, 11);
    }

    /** The same: a TRUNK with 20 TRUNKS. */
    private static void countAFullTrunk() {
        Run x = new Run("count(), a full TRUNK");
        x.done("rack", 1);
        x.done("trunk", 20);
        x.done("put", 0, 0, 0);
        for (int s = 0; s < 20; s++) {
            x.done("put", 1000, s, x.done("trunk", 1));
        }
        x.locked(21, 21);
        x.gives(21, "count", 0);
        x.locked(22, 21 + 22);
        x.gives(20, "count", 1000);
        x.locked(23, 21 + 22 + 21);
    }

    /** "plan(), least(): all RACKS" - none, one, twelve, whatever stands there. */
    private static void plansTakeAllRacks() {
        Run x = new Run("plan(), least(), all RACKS");
        x.gives(0, "plan");
        x.locked(1, 0);
        x.done("actor");
        x.done("role", 0, 0);
        x.done("wear", 3);
        x.refused(12, "plan");
        x.refused(12, "least", 0, 0);
        x.locked(3, 0);
        x.done("size", 0, 0, 100);
        x.done("measure", 0, 0, 500);
        int house = 3;
        int holders = 0;
        for (int r = 1; r <= 12; r++) {
            x.done("rack", 1);
            x.refused(12, "plan");
            x.refused(12, "least", 0, 0);
            house += 2;
            holders += 2 * r;
            x.locked(house, holders);
        }
        int set = x.done("set");
        int trunk = x.done("trunk", 1);
        x.done("put", 0, 0, set);
        x.done("put", 1, 0, trunk);
        x.done("put", 2, 0, 0);
        x.gives(0, "plan");
        x.gives(0, "least", 0, 0);
        x.locked(house + 5, holders + 3 + 24);
        x.done("clear");
        x.gives(0, "plan");
        x.locked(house + 6, holders + 3 + 36);
    }

    /** "undo() takes none." */
    private static void undoTakesNone() {
        Run x = new Run("undo() takes none");
        x.refused(11, "undo");
        x.locked(0, 0);
        x.done("rack", 2);
        x.done("wear", 3);
        x.done("put", 0, 0, 0);
        x.done("take", 0, 0);
        x.done("undo");
        x.done("hire", 0, 1);
        x.done("back", 0, 0, 1, 1);
        x.locked(4, 4);
        for (int k = 0; k < 3; k++) {
            x.gives(1, "undo");
            x.locked(4, 4);
        }
        x.refused(11, "undo");
        x.locked(4, 4);
    }

    /** Terms 5 name the calls that take LOCKS: all others take none, though they ask what is in a SET. */
    private static void othersTakeNone() {
        Run x = new Run("all others take none");
        x.done("rack", 2);
        x.done("set");
        x.done("wear", 0);
        x.done("trunk", 1);
        x.done("row", 6, 1);
        x.done("actor");
        x.done("put", 1000, 0, 1);
        for (int part : new int[] {1, 2, 3, 5}) {
            x.done("size", 1, part, 100);
            x.done("reach", 1, part, 1, 1);
            x.done("measure", 0, part, 500);
        }
        x.gives(1, "fits", 0, 0);
        x.gives(0, "cost", 0, 0);
        x.gives(3, "minutes", 0);
        x.gives(3, "wash", 0);
        x.done("alter", 1, 1, 1);
        x.done("sizeOf", 1, 1, 0);
        x.done("kind", 1);
        x.done("state", 1);
        x.done("holder", 1);
        x.done("write", 3, 0, 1);
        x.done("value", 3, 0);
        x.done("role", 0, 0);
        x.done("scene", 0, 1);
        x.refused(10, "dressOf", 0);
        x.done("clear");
        x.done("purse");
        x.done("spent");
        x.done("share", 0, 1);
        x.done("status");
        x.done("digest");
        x.locked(1, 1);
    }

    /** Promise 40: "STATUS; 0 at first." */
    private static void statusIsZeroAtFirst() {
        Run x = new Run("40: status");
        x.gives(0, "status");
        x.gives(0, "status");
    }

    /** "STATUS of the latest call that may be refused: 0; 1 (..) 13 NONE": each of them. */
    private static void everyStatusThereIs() {
        Run x = new Run("40: every STATUS");
        x.done("rack", 1);
        x.done("trunk", 1);
        x.done("row", 7, 1);
        x.done("write", 1, 0, -1);
        x.done("wear", 3);
        x.refused(11, "undo");
        x.done("put", 0, 0, 1);
        Object[][] refused = {{1, "count", 9}, {2, "inside", 0, 1}, {3, "inside", 1000, 0}, {4, "hire", 1, 0},
            {5, "put", 0, 0, 2}, {6, "rack", 0}, {7, "share", 0, 0}, {8, "put", 1000, 0, 1}, {9, "put", 1000, 0, 0},
            {10, "kind", 9}, {12, "alter", 2, 0, 1}, {13, "value", 1, 0}};
        for (Object[] call : refused) {
            refuse(x, call);
            x.gives((Integer) call[0], "status");
            // The next that is done makes it 0 again.
            x.gives(3, "kind", 2);
            x.gives(0, "status");
        }
    }

    /** "STATUS of the latest call that may be refused: 0": each call that may be, done after one that was refused. */
    private static void statusIsZeroAfterWhatIsDone() {
        Run x = new Run("40: STATUS of what is done");
        Object[][] calls = {{0, "rack", 2}, {0, "wear", 3}, {1, "set"}, {2, "trunk", 1}, {3, "row", 7, 1}, {1, "write", 3, 0, 10},
            {1, "value", 3, 0}, {3, "kind", 0}, {0, "state", 0}, {1, "put", 0, 0, 0}, {0, "holder", 0}, {0, "inside", 0, 0},
            {0, "take", 0, 0}, {1, "put", 0, 1, 0}, {0, "size", 0, 0, 100}, {1, "reach", 0, 0, 9, 9}, {5, "alter", 0, 0, 1},
            {101, "sizeOf", 0, 0, 0}, {10, "sizeOf", 0, 0, 1}, {8, "sizeOf", 0, 0, 2}, {0, "actor"}, {1, "measure", 0, 0, 505},
            {1, "fits", 0, 0}, {2, "fits", 0, 1}, {0, "cost", 0, 0}, {3, "minutes", 0}, {0, "minutes", 1}, {1, "wash", 1},
            {4, "wear", 1}, {5, "wash", 4}, {0, "role", 0, 0}, {0, "scene", 0, 1}, {0, "plan"}, {0, "dressOf", 0},
            {0, "least", 0, 0}, {0, "hire", 0, 5}, {2, "back", 0, 0, 0, 3}, {3, "share", 0, 1}, {0, "find", -1, 3},
            {1, "count", 0}, {1, "undo"}, {10, "locks", 0}, {10, "locks", 1}, {0, "locks", 2}, {1, "write", 3, 0, -2},
            {BIG, "value", 3, 0}, {5, "row", 6, 1}, {0, "value", 5, 0}};
        for (Object[] call : calls) {
            x.refused(7, "share", 0, 0);
            int[] args = new int[call.length - 2];
            for (int k = 0; k < args.length; k++) {
                args[k] = (Integer) call[k + 2];
            }
            x.gives((Integer) call[0], (String) call[1], args);
        }
    }

    /** "STATUS of the latest call that may be refused": clear(), purse(), spent(), status(), digest() never are. */
    private static void statusStaysWhereNothingIsRefused() {
        Run x = new Run("40: STATUS stays");
        for (String name : new String[] {"clear", "purse", "spent", "status"}) {
            x.refused(6, "rack", 0);
            x.gives(name.equals("status") ? 6 : 0, name);
            x.gives(6, "status");
        }
        x.refused(11, "undo");
        x.gives(17 * 31 * 31 * 31 * 31, "digest");
        x.gives(11, "status");
        x.done("locks", 0);
        x.gives(17 * 31 * 31 * 31 * 31, "digest");
        x.gives(0, "status");
    }

    /** Promise 41: "d, of 17, goes over x: d * 31 + x, wrapping" - in numbers without an end, cut to 32 bits at last. */
    private static int over(List<Integer> xs) {
        BigInteger d = BigInteger.valueOf(17);
        for (int x : xs) {
            d = d.multiply(BigInteger.valueOf(31)).add(BigInteger.valueOf(x));
        }
        return d.intValue();
    }

    private static int over(Integer... xs) {
        return over(List.of(xs));
    }

    /** Promise 41 with nothing there: the PURSE, what was spent and the LOCKS alone. */
    private static void digestOfNothing() {
        Run x = new Run("41: digest, nothing");
        x.gives(over(0, 0, 0, 0), "digest");
        x.done("actor");
        x.gives(over(0, 0, 0, 0), "digest");
    }

    /** "of each THING its KIND, STATE, holder (-1: in none), of KINDS 0 to 3 its SIZES" */
    private static void digestOfEachThing() {
        Run x = new Run("41: digest, THINGS");
        List<Integer> due = new ArrayList<>();
        for (int kind = 0; kind < 4; kind++) {
            x.done("wear", kind);
            due.addAll(List.of(kind, 0, -1));
            for (int part = 0; part < 6; part++) {
                x.done("size", kind, part, 255 - 10 * part - kind);
                x.done("reach", kind, part, 60, 60);
                due.add(255 - 10 * part - kind);
            }
        }
        x.done("set");
        x.done("trunk", 1);
        due.addAll(List.of(4, 0, -1, 5, 0, -1));
        for (int kind = 6; kind < 9; kind++) {
            x.done("row", kind, 2);
            x.done("write", kind, 1, 100);
            due.addAll(List.of(kind, 0, -1));
        }
        due.addAll(List.of(0, 0, 0, 0));
        x.gives(over(due), "digest");
        // In a SLOT of a SET, of a TRUNK.
        x.done("put", 1004, 0, 3);
        x.done("put", 1005, 0, 8);
        due.set(3 * 9 + 1, 1);
        due.set(3 * 9 + 2, 1004);
        int last = 4 * 9 + 4 * 3;
        due.set(last + 1, 1);
        due.set(last + 2, 1005);
        due.set(due.size() - 2, 2);
        due.set(due.size() - 1, 2);
        x.gives(over(due), "digest");
        // A SIZE that is altered, and the ones that are not told any more.
        x.done("alter", 0, 5, 1);
        due.set(8, 206);
        due.set(due.size() - 3, 2);
        x.done("size", 1, 0, 0);
        due.set(9 + 3, 0);
        x.gives(over(due), "digest");
    }

    /** "of each RACK the THINGS in its SLOTS (-1: nothing)" - all with nothing, all full. */
    private static void digestOfEachRack() {
        Run x = new Run("41: digest, RACKS");
        List<Integer> due = new ArrayList<>();
        for (int r = 0; r < 12; r++) {
            int n = r == 0 ? 1 : r == 11 ? 40 : r;
            x.done("rack", n);
            for (int s = 0; s < n; s++) {
                due.add(-1);
            }
        }
        due.addAll(List.of(0, 0, 0, 0));
        x.gives(over(due), "digest");
        List<Integer> things = new ArrayList<>();
        int racks = due.size() - 4;
        for (int s = 0; s < 40; s++) {
            x.done("row", 6, 0);
            x.done("put", 11, s, s);
            things.addAll(List.of(6, 1, 11));
            due.set(racks - 40 + s, s);
        }
        x.done("row", 8, 0);
        x.done("put", 0, 0, 40);
        things.addAll(List.of(8, 1, 0));
        due.set(0, 40);
        due.set(racks + 2, 41);
        due.set(racks + 3, 41);
        things.addAll(due);
        x.gives(over(things), "digest");
    }

    /** "purse(), spent(), locks(0), locks(1)" - each in its place. */
    private static void digestOfPurseSpentAndLocks() {
        Run x = new Run("41: digest, PURSE and LOCKS");
        x.done("rack", 1);
        x.done("rack", 1);
        x.done("wear", 3);
        x.done("size", 0, 0, 100);
        x.done("reach", 0, 0, 9, 9);
        x.done("alter", 0, 0, 3);
        x.done("put", 1, 0, 0);
        x.gives(over(3, 1, 1, 103, 0, 0, 0, 0, 0, -1, 0, 0, 15, 1, 1), "digest");
        x.done("hire", 0, 1000000);
        x.gives(over(3, 2, -1, 103, 0, 0, 0, 0, 0, -1, -1, 1000000, 15, 2, 2), "digest");
        x.done("count", 0);
        x.done("plan");
        x.gives(over(3, 2, -1, 103, 0, 0, 0, 0, 0, -1, -1, 1000000, 15, 4, 5), "digest");
        x.done("back", 0, 0, 0, 1);
        x.gives(over(3, 1, 0, 103, 0, 0, 0, 0, 0, 0, -1, 1, 15, 5, 6), "digest");
        x.done("undo");
        x.done("undo");
        x.gives(over(3, 1, 1, 103, 0, 0, 0, 0, 0, -1, 0, 0, 15, 5, 6), "digest");
    }

    /** "wrapping": all 200 THINGS and 480 SLOTS, far beyond what an int holds. */
    private static void digestWrapsAround() {
        Run x = new Run("41: digest, wrapping");
        List<Integer> things = new ArrayList<>();
        List<Integer> slots = new ArrayList<>();
        for (int r = 0; r < 12; r++) {
            x.done("rack", 40);
            for (int s = 0; s < 40; s++) {
                slots.add(-1);
            }
        }
        for (int t = 0; t < 200; t++) {
            x.is(t, "wear", t % 4);
            int slot = t * 12 / 5;
            x.is(1, "put", slot / 40, slot % 40, t);
            slots.set(slot, t);
            things.addAll(List.of(t % 4, 1, slot / 40, 0, 0, 0, t == 199 ? 255 : 0, 0, 0));
        }
        x.done("size", 199, 3, 255);
        things.addAll(slots);
        things.addAll(List.of(0, 0, 200, 200));
        x.gives(over(things), "digest");
    }

    /** "Answers d; STATUS stays." - and all else. */
    private static void digestChangesNothing() {
        Run x = new Run("41: digest, nothing is changed");
        x.done("rack", 1);
        x.refused(6, "rack", 0);
        int due = over(-1, 0, 0, 0, 0);
        x.gives(due, "digest");
        x.gives(due, "digest");
        x.gives(6, "status");
        x.gives(due, "digest");
        x.locked(0, 0);
    }
}
