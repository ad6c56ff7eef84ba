/** Promises 25 to 30: role, clear, scene; plan, dressOf, least. */
public final class PlansTest {
    private static final int BIG = Integer.MAX_VALUE;
    private static final int LOW = Integer.MIN_VALUE;

    public static void main(String[] args) {
        roles();
        roleRefused();
        clears();
        scenes();
        noRoles();
        noPlan();
        leastThingsOfEqualCost();
        leastThingsGoByRoles();
        oneSceneOneEach();
        changeTakesMinutes();
        changeCountsTheLaterOne();
        changeSumsScenesBetween();
        changeOnlyOfNeighbours();
        changeOfOneActorAlone();
        wearOnRacksAlone();
        firstEightByNumbers();
        setsArePlanned();
        planIsKept();
        leastOfEach();
        leastRefused();
        mostRolesInOneScene();
        Due.end();
    }

    /** Masks on a rack: as wide as told in half centimetres, with a reach of 60 both ways. */
    private static CostumeStock masks(int... sizes) {
        CostumeStock x = new CostumeStock();
        x.rack(40);
        for (int t = 0; t < sizes.length; t++) {
            x.wear(3);
            x.size(t, 0, sizes[t]);
            x.reach(t, 0, 60, 60);
            x.put(0, sizes.length - 1 - t, t);
        }
        return x;
    }

    private static void actors(CostumeStock x, int... wanted) {
        for (int a = 0; a < wanted.length; a++) {
            x.actor();
            x.measure(a, 0, 5 * wanted[a]);
        }
    }

    private static void gives(CostumeStock x, String why, int... dresses) {
        for (int r = 0; r < dresses.length; r++) {
            Due.done(x, "29: dressOf(" + r + "), " + why, x.dressOf(r), dresses[r]);
        }
        Due.refused(x, "29: dressOf(" + dresses.length + "), " + why, x.dressOf(dresses.length), 10);
    }

    private static void roles() {
        CostumeStock x = new CostumeStock();
        x.actor();
        x.actor();
        for (int r = 0; r < 5; r++) {
            Due.done(x, "25: role(0, " + r + ")", x.role(0, r), r);
        }
        Due.done(x, "25: role(1, 9)", x.role(1, 9), 5);
        Due.done(x, "25: role(1, 0)", x.role(1, 0), 6);
        Due.refused(x, "25: role(1, 1), the eighth", x.role(1, 1), 6);
        Due.refused(x, "25: 6 ahead of 5", x.role(1, 0), 6);
    }

    private static void roleRefused() {
        CostumeStock x = new CostumeStock();
        x.actor();
        x.actor();
        for (int a : new int[] {2, -1, BIG, LOW}) {
            Due.refused(x, "25: role(" + a + ", 0)", x.role(a, 0), 10);
            Due.refused(x, "25: 10 ahead of 6", x.role(a, 10), 10);
        }
        for (int scene : new int[] {10, -1, BIG, LOW}) {
            Due.refused(x, "25: role(0, " + scene + ")", x.role(0, scene), 6);
        }
        Due.done(x, "25: role(0, 3)", x.role(0, 3), 0);
        Due.refused(x, "25: role(0, 3) again", x.role(0, 3), 5);
        Due.done(x, "25: role(1, 3)", x.role(1, 3), 1);
        Due.done(x, "25: role(0, 4)", x.role(0, 4), 2);
        Due.refused(x, "25: role(1, 3) again", x.role(1, 3), 5);
        Due.answer("26: clear()", x.clear(), 3);
    }

    private static void clears() {
        CostumeStock x = new CostumeStock();
        x.actor();
        x.role(0, 1);
        x.role(0, 2);
        Due.refused(x, "role(5, 5)", x.role(5, 5), 10);
        Due.answer("26: clear()", x.clear(), 2);
        // clear() can't be refused: the STATUS is that of role().
        Due.answer("26: status()", x.status(), 10);
        Due.answer("26: clear()", x.clear(), 0);
        Due.done(x, "26: role(0, 2)", x.role(0, 2), 0);
        for (int r = 1; r < 7; r++) {
            Due.done(x, "26: role()", x.role(0, r + 2), r);
        }
        Due.answer("26: clear()", x.clear(), 7);
        Due.done(x, "28: plan()", x.plan(), 0);
    }

    private static void scenes() {
        CostumeStock x = new CostumeStock();
        for (int scene = 0; scene < 10; scene++) {
            Due.done(x, "27: scene(" + scene + ", 90)", x.scene(scene, 90), 0);
            Due.done(x, "27: scene(" + scene + ", 0)", x.scene(scene, 0), 90);
            Due.done(x, "27: scene(" + scene + ", ..)", x.scene(scene, scene), 0);
        }
        for (int n : new int[] {-1, 91, BIG, LOW}) {
            Due.refused(x, "27: scene(3, " + n + ")", x.scene(3, n), 6);
        }
        for (int n : new int[] {-1, 10, BIG, LOW}) {
            Due.refused(x, "27: scene(" + n + ", 5)", x.scene(n, 5), 6);
        }
        x.actor();
        x.role(0, 3);
        x.clear();
        for (int scene = 0; scene < 10; scene++) {
            Due.done(x, "27: scene(" + scene + ", 1)", x.scene(scene, 1), scene);
        }
    }

    private static void noRoles() {
        CostumeStock x = new CostumeStock();
        Due.done(x, "28: plan()", x.plan(), 0);
        Due.refused(x, "29: dressOf(0)", x.dressOf(0), 10);
        x = masks(100);
        actors(x, 100);
        x.role(0, 0);
        Due.done(x, "28: plan()", x.plan(), 0);
        gives(x, "one role", 0);
        x.clear();
        // It is the latest plan() that counts, not the ROLES as they are now.
        gives(x, "roles are cleared", 0);
        Due.done(x, "28: plan(), no roles", x.plan(), 0);
        Due.refused(x, "29: dressOf(0)", x.dressOf(0), 10);
    }

    private static void noPlan() {
        CostumeStock x = masks(100, 101);
        actors(x, 100, 101, 102);
        x.role(0, 0);
        x.role(1, 0);
        Due.done(x, "28: plan()", x.plan(), 0);
        gives(x, "two roles", 0, 1);
        x.role(2, 0);
        gives(x, "a role more, no new plan", 0, 1);
        Due.refused(x, "28: three roles, two masks", x.plan(), 12);
        Due.refused(x, "29: the plan of before is gone", x.dressOf(0), 10);
        x.clear();
        x.role(2, 5);
        Due.done(x, "28: plan()", x.plan(), 5);
        gives(x, "the nearest", 1);
        x.measure(2, 0, -1);
        Due.refused(x, "28: open", x.plan(), 12);
        Due.refused(x, "29: dressOf(0)", x.dressOf(0), 10);
        x.measure(2, 0, -2);
        Due.refused(x, "28: wrong", x.plan(), 12);
        for (int r : new int[] {0, 1, -1, BIG, LOW}) {
            Due.refused(x, "29: dressOf(" + r + ")", x.dressOf(r), 10);
        }
        x.measure(2, 0, 500);
        Due.done(x, "28: plan()", x.plan(), 0);
        for (int r : new int[] {1, -1, 7, BIG, LOW}) {
            Due.refused(x, "29: dressOf(" + r + ")", x.dressOf(r), 10);
        }
    }

    private static void leastThingsOfEqualCost() {
        CostumeStock x = masks(102, 98, 100, 100);
        actors(x, 100);
        x.role(0, 4);
        Due.done(x, "28: plan()", x.plan(), 0);
        gives(x, "2 and 3 cost nothing", 2);
        x.clear();
        x.measure(0, 0, 495);
        x.take(0, 1);
        x.take(0, 0);
        x.role(0, 4);
        x.measure(0, 0, 500);
        Due.done(x, "28: plan()", x.plan(), 10);
        gives(x, "0 and 1 cost the same", 0);
    }

    private static void leastThingsGoByRoles() {
        CostumeStock x = masks(100, 100, 100);
        actors(x, 100, 100, 100);
        // ROLE 0 is in the last SCENE: it still has the first choice.
        x.role(0, 9);
        x.role(1, 0);
        x.role(2, 0);
        x.role(0, 0);
        Due.done(x, "28: plan()", x.plan(), 0);
        gives(x, "no time is between: the same in both", 0, 1, 2, 0);
        x.scene(5, 3);
        Due.done(x, "28: plan()", x.plan(), 0);
        gives(x, "time enough", 0, 0, 1, 2);
    }

    private static void oneSceneOneEach() {
        CostumeStock x = masks(100, 110);
        actors(x, 100, 100);
        x.role(0, 0);
        x.role(1, 1);
        Due.done(x, "28: two scenes", x.plan(), 0);
        gives(x, "two scenes", 0, 0);
        x.role(1, 0);
        Due.done(x, "28: both in a scene, 1 keeps it on", x.plan(), 50);
        gives(x, "both in a scene", 1, 0, 0);
        x.clear();
        x.role(0, 0);
        x.role(1, 0);
        Due.done(x, "28: one scene", x.plan(), 50);
        gives(x, "one scene", 0, 1);
    }

    private static void changeTakesMinutes() {
        CostumeStock x = masks(100, 110);
        actors(x, 100, 110);
        // Two actors in scene 0 and, the other mask being gone there, in scene 2.
        x.role(0, 0);
        x.role(1, 2);
        x.role(0, 2);
        x.measure(1, 0, 500);
        Due.done(x, "28: no time", x.plan(), 50);
        gives(x, "no time", 0, 1, 0);
        Due.done(x, "30: least(1, 0)", x.least(1, 0), 100);
        x.scene(1, 2);
        Due.done(x, "30: two minutes", x.least(1, 0), 100);
        x.scene(1, 3);
        Due.done(x, "30: three minutes", x.least(1, 0), 50);
        x.scene(0, 90);
        x.scene(2, 90);
        x.scene(3, 90);
        x.scene(1, 0);
        Due.done(x, "30: only scenes between count", x.least(1, 0), 100);
    }

    private static void changeCountsTheLaterOne() {
        CostumeStock x = new CostumeStock();
        x.rack(2);
        // A COAT is on in 1 minute, a UNIFORM in 6; both need 1, 2, 4.
        x.wear(1);
        x.wear(2);
        x.actor();
        x.actor();
        for (int part = 0; part < 6; part++) {
            for (int t = 0; t < 2; t++) {
                x.size(t, part, 100);
                x.measure(t, part, 500);
            }
        }
        x.put(0, 0, 0);
        x.put(0, 1, 1);
        x.measure(1, 5, -1);
        x.role(0, 2);
        x.role(0, 0);
        x.role(1, 0);
        // 1 can wear the COAT alone, so 0 starts in the UNIFORM, and changes to the COAT in a minute.
        Due.done(x, "28: plan(), 0 minutes", x.plan(), 0);
        gives(x, "0 minutes", 1, 1, 0);
        x.scene(1, 1);
        Due.done(x, "28: plan(), 1 minute", x.plan(), 0);
        gives(x, "1 minute", 0, 1, 0);
        // The other way round it takes six.
        x.clear();
        x.role(0, 0);
        x.role(0, 2);
        x.role(1, 2);
        x.scene(1, 5);
        Due.done(x, "28: plan(), 5 minutes", x.plan(), 0);
        gives(x, "5 minutes", 1, 1, 0);
        x.scene(1, 6);
        Due.done(x, "28: plan(), 6 minutes", x.plan(), 0);
        gives(x, "6 minutes", 0, 1, 0);
    }

    private static void changeSumsScenesBetween() {
        CostumeStock x = masks(100, 100);
        actors(x, 100, 100);
        // 1 has the first choice in 6, so 0 is in mask 1 there, and before it in mask 0 if it can change.
        x.role(1, 6);
        x.role(0, 2);
        x.role(0, 6);
        x.scene(2, 90);
        x.scene(6, 90);
        Due.done(x, "28: no time", x.plan(), 0);
        gives(x, "no time", 0, 1, 1);
        x.scene(3, 1);
        x.scene(4, 1);
        Due.done(x, "28: two minutes", x.plan(), 0);
        gives(x, "two minutes", 0, 1, 1);
        x.scene(5, 1);
        Due.done(x, "28: three minutes", x.plan(), 0);
        gives(x, "three minutes", 0, 0, 1);
    }

    private static void changeOnlyOfNeighbours() {
        CostumeStock x = masks(100, 100);
        actors(x, 100, 100);
        // 0 is on in 0, 2, 4; between 0 and 2 there is no time, between 2 and 4 there is.
        x.role(0, 4);
        x.role(0, 0);
        x.role(0, 2);
        x.role(1, 2);
        x.measure(1, 0, -2);
        Due.refused(x, "28: 1 is endless", x.plan(), 12);
        x.measure(1, 0, 500);
        x.scene(3, 3);
        Due.done(x, "28: plan()", x.plan(), 0);
        gives(x, "all the same", 0, 0, 0, 1);
        Due.done(x, "30: 1 has mask 0", x.least(3, 0), 0);
        x.clear();
        x.role(1, 2);
        x.role(0, 4);
        x.role(0, 0);
        x.role(0, 2);
        Due.done(x, "28: plan()", x.plan(), 0);
        gives(x, "the change comes after 2", 0, 0, 1, 1);
        x.scene(3, 0);
        x.scene(1, 3);
        Due.done(x, "28: plan()", x.plan(), 0);
        gives(x, "the change comes before 2", 0, 1, 0, 1);
    }

    private static void changeOfOneActorAlone() {
        CostumeStock x = masks(100, 120);
        actors(x, 100, 120);
        x.role(0, 0);
        x.role(1, 1);
        Due.done(x, "28: different actors change at will", x.plan(), 0);
        gives(x, "different actors", 0, 1);
    }

    private static void wearOnRacksAlone() {
        CostumeStock x = new CostumeStock();
        x.rack(4);
        x.rack(1);
        x.trunk(3);
        x.set();
        for (int t = 2; t < 6; t++) {
            x.wear(3);
            x.size(t, 0, 90 + t);
            x.reach(t, 0, 60, 60);
        }
        actors(x, 92);
        x.role(0, 0);
        // 2 is at hand, 3 in a trunk, 4 out; 5 is on the second rack; the set is open.
        x.put(1000, 0, 3);
        x.put(0, 0, 0);
        x.put(0, 1, 1);
        x.put(0, 2, 4);
        x.hire(4, 1);
        Due.refused(x, "28: none on a rack", x.plan(), 12);
        x.put(1, 0, 5);
        Due.done(x, "28: plan()", x.plan(), 15);
        gives(x, "the second rack", 5);
        for (int t = 0; t < 5; t++) {
            Due.refused(x, "30: least(0, " + t + ")", x.least(0, t), 12);
        }
        x.back(0, 0, 2, 0);
        Due.done(x, "28: plan()", x.plan(), 10);
        gives(x, "4 is back", 4);
    }

    private static void firstEightByNumbers() {
        CostumeStock x = new CostumeStock();
        x.rack(12);
        // 0 to 9 are masks, of which 1 stands in a trunk; a trunk and a row on the rack do not count.
        for (int t = 0; t < 10; t++) {
            x.wear(3);
            x.size(t, 0, 110 - t);
            x.reach(t, 0, 60, 60);
        }
        x.trunk(1);
        x.row(6, 1);
        x.put(1010, 0, 1);
        x.put(0, 11, 10);
        x.put(0, 10, 11);
        for (int t = 0; t < 10; t++) {
            x.put(0, 9 - t, t);
        }
        actors(x, 100);
        x.role(0, 0);
        Due.done(x, "28: plan(), the ninth is not looked at", x.plan(), 10);
        gives(x, "the eighth", 8);
        Due.refused(x, "30: least(0, 9)", x.least(0, 9), 12);
        Due.done(x, "30: least(0, 8)", x.least(0, 8), 10);
        // What does not fit counts among the eight.
        x.size(0, 0, 0);
        Due.done(x, "28: plan()", x.plan(), 10);
        x.take(0, 9);
        Due.done(x, "28: plan(), one less before it", x.plan(), 5);
        gives(x, "the ninth is the eighth now", 9);
    }

    private static void setsArePlanned() {
        CostumeStock x = new CostumeStock();
        x.rack(3);
        x.set();
        x.wear(3);
        x.wear(3);
        x.wear(3);
        for (int t = 1; t < 4; t++) {
            x.size(t, 0, 100);
            x.reach(t, 0, 9, 9);
        }
        actors(x, 101, 101);
        x.put(1000, 0, 1);
        x.put(1000, 1, 2);
        x.put(0, 0, 0);
        x.put(0, 1, 3);
        x.role(0, 0);
        x.role(0, 2);
        x.role(1, 0);
        Due.done(x, "28: plan()", x.plan(), 20);
        gives(x, "the set is for one scene alone", 3, 3, 0);
        x.clear();
        x.role(1, 2);
        x.role(0, 0);
        x.role(0, 2);
        x.size(3, 0, 92);
        x.reach(3, 0, 9, 9);
        x.measure(0, 0, 505);
        x.scene(1, 5);
        Due.done(x, "30: the set is on in 6", x.least(0, 3), 45 + 10 + 10);
        x.size(3, 0, 100);
        Due.done(x, "30: 5 minutes, the set then", x.least(2, 0), 10 + 10 + 5);
        Due.done(x, "28: plan()", x.plan(), 20);
        gives(x, "5 minutes", 0, 3, 3);
        x.take(1000, 1);
        x.take(1000, 0);
        Due.refused(x, "28: nothing is in the set", x.plan(), 12);
    }

    private static void planIsKept() {
        CostumeStock x = masks(100, 104);
        actors(x, 104);
        x.role(0, 0);
        Due.done(x, "28: plan()", x.plan(), 0);
        x.take(0, 0);
        gives(x, "it is gone since", 1);
        Due.done(x, "30: least(0, 0)", x.least(0, 0), 20);
        gives(x, "least() makes no plan", 1);
        Due.refused(x, "30: least(0, 1)", x.least(0, 1), 12);
        gives(x, "least() leaves the plan", 1);
        Due.done(x, "28: plan()", x.plan(), 20);
        gives(x, "a new plan", 0);
        x.undo();
        gives(x, "undo() leaves the plan", 0);
        x.role(0, 1);
        gives(x, "role() leaves the plan", 0);
    }

    private static void leastOfEach() {
        CostumeStock x = masks(100, 103, 110);
        actors(x, 100, 103);
        x.role(0, 0);
        x.role(1, 0);
        Due.done(x, "28: plan()", x.plan(), 0);
        int[][] due = {{0, 30, 50}, {30, 0, 35}};
        for (int r = 0; r < 2; r++) {
            for (int t = 0; t < 3; t++) {
                Due.done(x, "30: least(" + r + ", " + t + ")", x.least(r, t), due[r][t]);
            }
        }
    }

    private static void leastRefused() {
        CostumeStock x = masks(100);
        x.trunk(1);
        x.row(6, 1);
        actors(x, 100, 200);
        for (int r : new int[] {0, -1, BIG, LOW}) {
            Due.refused(x, "30: least(" + r + ", 0)", x.least(r, 0), 10);
        }
        x.role(0, 0);
        for (int r : new int[] {1, 7, -1, BIG, LOW}) {
            Due.refused(x, "30: least(" + r + ", 0)", x.least(r, 0), 10);
        }
        for (int t : new int[] {3, -1, BIG, LOW}) {
            Due.refused(x, "30: least(0, " + t + ")", x.least(0, t), 10);
        }
        Due.refused(x, "30: a trunk", x.least(0, 1), 12);
        Due.refused(x, "30: a row", x.least(0, 2), 12);
        Due.done(x, "30: the mask", x.least(0, 0), 0);
        x.role(1, 1);
        Due.refused(x, "30: another role has none", x.least(0, 0), 12);
    }

    private static void mostRolesInOneScene() {
        CostumeStock x = masks(100, 101, 102, 103, 104, 105, 106, 107);
        actors(x, 107, 106, 105, 104, 103, 102, 101);
        for (int a = 0; a < 7; a++) {
            x.role(a, 8);
        }
        Due.done(x, "28: plan()", x.plan(), 0);
        gives(x, "each its own", 7, 6, 5, 4, 3, 2, 1);
        Due.done(x, "30: least(0, 0)", x.least(0, 0), 35);
        Due.done(x, "30: least(3, 1)", x.least(3, 1), 20);
    }
}
