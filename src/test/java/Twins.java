import java.util.List;

/**
 * Terms 6: "A refused call answers -1 and changes nothing but this." - two objects with the same run
 * behind them, the second with a refused call more: whatever is asked then, both answer it alike. What
 * may differ is what the document says of it elsewhere: the LOCKS that it took (Terms 5), and after a
 * refused plan() the PLAN of before (promise 28).
 */
final class Twins {
    private static final int MOST_THINGS_ASKED = 12;

    private final String about;
    private final String refused;
    private final CostumeStock without;
    private final CostumeStock with;
    private int left;

    Twins(String about, List<Run.Call> calls, Run.Call call) {
        this.about = about;
        refused = call.name();
        without = Run.again(calls);
        with = Run.again(calls);
        call.on(with);
        left = Run.MOST_CALLS - calls.size() - 1;
    }

    void compare(int things, int racks, int actors, int[] moreLocks) {
        int asked = Math.min(things, MOST_THINGS_ASKED);
        for (int what = 0; what < 2; what++) {
            Due.answer(about + ", LOCKS " + what, with.locks(what) - without.locks(what), moreLocks[what]);
        }
        left -= 2;
        same("locks", 2);
        same("purse");
        same("spent");
        sameDigest();
        comparePlan();
        for (int a = 0; a < Math.min(actors, 3); a++) {
            for (int t = 0; t < asked; t++) {
                same("fits", a, t);
            }
        }
        compareThings(asked);
        compareScenes(asked);
        compareNumbers(asked);
        compareUndo();
    }

    private int same(String name, int... args) {
        if (left < 1) {
            return -1;
        }
        left--;
        Run.Call call = new Run.Call(name, args);
        int answer = call.on(without);
        Due.answer(about + ", then " + call.told(), call.on(with), answer);
        return answer;
    }

    /** The LOCKS are the last that the digest goes over, so they can be taken out of it again. */
    private void sameDigest() {
        if (left < 3) {
            return;
        }
        left -= 3;
        Due.answer(about + ", then digest() less LOCKS", digestLessLocks(with), digestLessLocks(without));
    }

    private static int digestLessLocks(CostumeStock stock) {
        return stock.digest() - 31 * stock.locks(0) - stock.locks(1);
    }

    /** Of a refused plan() the document says that the PLAN of before is gone. */
    private void comparePlan() {
        for (int r = 0; r < 7; r++) {
            if (!refused.equals("plan")) {
                same("dressOf", r);
            } else if (left > 0) {
                left--;
                Due.answer(about + ", then dressOf(" + r + ")", with.dressOf(r), -1);
            }
        }
    }

    private void compareThings(int asked) {
        for (int t = 0; t < asked; t++) {
            for (int part = 0; part < 6 && same("kind", t) < 4; part++) {
                same("sizeOf", t, part, 1);
                same("sizeOf", t, part, 2);
            }
            for (int i = 0; i < 3; i++) {
                same("value", t, i);
            }
        }
    }

    private void compareScenes(int asked) {
        for (int r = 0; r < 3; r++) {
            for (int t = 0; t < Math.min(asked, 3); t++) {
                same("least", r, t);
            }
        }
        for (int scene = 0; scene < 10; scene++) {
            same("scene", scene, 0);
        }
        same("clear");
    }

    /** The numbers that are given next. */
    private void compareNumbers(int asked) {
        same("rack", 1);
        same("actor");
        same("wear", 3);
        for (int t = 0; t < asked; t++) {
            same("hire", t, 0);
        }
    }

    private void compareUndo() {
        while (left > 0 && same("undo") == 1) {
            sameDigest();
        }
    }
}
