import java.util.Random;

/** Terms 3 and promises 25 to 30 (roles, scenes, plans): a test for each sentence that names a boundary. */
public final class PlanEdgesTest {
    private static final int BIG = Run.BIG;
    private static final int LOW = Run.LOW;
    private static final int[] PRICES = {2, 2, 3, 5};
    private static final int[] MORE = {0, 4, 4, 0};
    private static final int[] NEEDED = {4, 3, 4, 1};
    private static final int[] MINUTES = {3, 1, 6, 3};

    public static void main(String[] args) {
        rolesAreSevenAtMost();
        rolesAreInScenesZeroToNine();
        anActorHasOneRoleInAScene();
        clearAnswersHowMany();
        scenesAreZeroToNine();
        scenesLastZeroToNinety();
        wearStandsOnARackItself();
        wearStandsAnywhereOnRacks();
        theLastOf200Things();
        theFirstEightByNumbers();
        theEightAreWearAlone();
        theEightAreChosenBeforeTheyFit();
        aFitOfOneAlone();
        noTwoOfOneScene();
        oneForDifferentScenes();
        changeTakesTheMinutesOfEachKind();
        changeTakesTheMinutesOfASet();
        changeTakesTheLaterOnesMinutes();
        changeCountsScenesBetweenAlone();
        changeSumsAllScenesBetween();
        changeBetweenFirstAndLast();
        changeIsBetweenNeighbours();
        theSameWearTakesNoTime();
        rolesByAnyNumberAreLaterByScene();
        leastCostGoesAheadOfNumbers();
        roleZeroHasTheLeastThing();
        thenRoleOne();
        numbersGoByThingsNotBySlots();
        noRolesCostNothing();
        thereIsNoPlan();
        thePlanOfBeforeIsGone();
        dressOfWhatIsInThePlan();
        planIsOfRolesAndWearAsTheyAreNow();
        leastOfNoSuchRoleOrThing();
        leastWhereThereIsNone();
        leastIsTheProofOfThePlan();
        sevenRolesAndEightWear();
        planIsTheLeastOfAll();
        Due.end();
    }

    /** A RACK with MASKS as wide as told, which can be altered by 60 both ways. */
    private static Run masks(String about, int... sizes) {
        Run x = new Run(about);
        x.done("rack", 40);
        for (int t = 0; t < sizes.length; t++) {
            x.done("wear", 3);
            x.done("size", t, 0, sizes[t]);
            x.done("reach", t, 0, 60, 60);
            x.done("put", 0, t, t);
        }
        return x;
    }

    private static void actors(Run x, int... wanted) {
        for (int n : wanted) {
            int a = x.done("actor");
            x.done("measure", a, 0, 5 * n);
        }
    }

    private static void dresses(Run x, int... things) {
        for (int r = 0; r < things.length; r++) {
            x.gives(things[r], "dressOf", r);
        }
        x.refused(10, "dressOf", things.length);
    }

    /** "ROLES have numbers from 0 on, 7 at most" */
    private static void rolesAreSevenAtMost() {
        Run x = new Run("25: role, 7 at most");
        x.done("actor");
        x.done("actor");
        for (int r = 0; r < 7; r++) {
            x.gives(r, "role", r % 2, r);
        }
        x.refused(6, "role", 0, 9);
        x.refused(6, "role", 1, 0);
        x.gives(7, "clear");
        for (int r = 0; r < 7; r++) {
            x.gives(r, "role", 1, 9 - r);
        }
        x.refused(6, "role", 0, 0);
    }

    /** "an ACTOR in a SCENE (0 to 9)" - "(10; 6: the SCENE ..)" */
    private static void rolesAreInScenesZeroToNine() {
        Run x = new Run("25: role, SCENE 0 to 9");
        x.refused(10, "role", 0, 0);
        x.done("actor");
        for (int scene : new int[] {-1, 10, 11, BIG, LOW}) {
            x.refused(6, "role", 0, scene);
        }
        x.gives(0, "role", 0, 0);
        x.gives(1, "role", 0, 9);
        for (int a : new int[] {-1, 1, 40, BIG, LOW}) {
            x.refused(10, "role", a, 5);
        }
    }

    /** Promise 25: "(.. 5: the ACTOR has one in this SCENE)" */
    private static void anActorHasOneRoleInAScene() {
        Run x = new Run("25: role, one in a SCENE");
        x.done("actor");
        x.done("actor");
        x.gives(0, "role", 0, 0);
        x.refused(5, "role", 0, 0);
        x.gives(1, "role", 1, 0);
        x.gives(2, "role", 0, 9);
        x.refused(5, "role", 0, 9);
        x.refused(5, "role", 1, 0);
        x.gives(3, "role", 1, 9);
        x.gives(4, "clear");
        x.gives(0, "role", 0, 0);
    }

    /** Promise 26: "There are no ROLES any more: how many there were." */
    private static void clearAnswersHowMany() {
        Run x = new Run("26: clear");
        x.done("actor");
        for (int n = 0; n <= 7; n++) {
            for (int r = 0; r < n; r++) {
                x.is(r, "role", 0, r);
            }
            x.gives(n, "clear");
            x.gives(0, "clear");
            x.refused(10, "least", 0, 0);
        }
        x.gives(0, "plan");
    }

    /** Promise 27: "How long a SCENE lasts: what was told before. (6)" - SCENES 0 to 9. */
    private static void scenesAreZeroToNine() {
        Run x = new Run("27: scene, 0 to 9");
        for (int scene : new int[] {-1, 10, 11, BIG, LOW}) {
            x.refused(6, "scene", scene, 0);
            x.refused(6, "scene", scene, 90);
        }
        for (int scene = 0; scene < 10; scene++) {
            x.gives(0, "scene", scene, 10 + scene);
        }
        for (int scene = 0; scene < 10; scene++) {
            x.gives(10 + scene, "scene", scene, 0);
        }
    }

    /** "each lasts 0 to 90 minutes (0 at first)" */
    private static void scenesLastZeroToNinety() {
        for (int scene : new int[] {0, 9}) {
            Run x = new Run("27: scene, 0 to 90 minutes");
            x.gives(0, "scene", scene, 90);
            for (int minutes : new int[] {-1, 91, BIG, LOW}) {
                x.refused(6, "scene", scene, minutes);
            }
            x.gives(90, "scene", scene, 0);
            x.gives(0, "scene", scene, 1);
            x.done("clear");
            x.refused(11, "undo");
            x.gives(1, "scene", scene, 89);
        }
    }

    /** "those that are in a SLOT of a RACK itself (not of what is in a SET or TRUNK there)" */
    private static void wearStandsOnARackItself() {
        Run x = masks("on a RACK itself", 100);
        actors(x, 100);
        x.done("role", 0, 0);
        x.gives(0, "plan");
        int set = x.done("set");
        int trunk = x.done("trunk", 1);
        x.done("take", 0, 0);
        x.refused(12, "plan");
        x.refused(12, "least", 0, 0);
        x.done("put", 0, 1, trunk);
        x.done("put", 1000 + trunk, 0, 0);
        x.refused(12, "plan");
        x.done("take", 1000 + trunk, 0);
        x.done("put", 1000 + set, 0, 0);
        x.refused(12, "plan");
        // The SET is WEAR itself, once it stands on the RACK; what is in it is none to give.
        x.done("put", 0, 2, set);
        x.gives(0, "plan");
        dresses(x, set);
        x.refused(12, "least", 0, 0);
        x.gives(0, "least", 0, set);
        x.done("hire", set, 0);
        x.refused(12, "plan");
        x.done("back", 0, 1000 + trunk, 0, 0);
        x.refused(12, "plan");
    }

    /** The same: the first and the last SLOT of the first and the last RACK. */
    private static void wearStandsAnywhereOnRacks() {
        Run x = new Run("in any SLOT of a RACK");
        for (int r = 0; r < 12; r++) {
            x.done("rack", 40);
        }
        x.done("wear", 3);
        x.done("size", 0, 0, 100);
        actors(x, 100);
        x.done("role", 0, 0);
        for (int r : new int[] {0, 11}) {
            for (int s : new int[] {0, 39}) {
                x.refused(12, "plan");
                x.done("put", r, s, 0);
                x.gives(0, "plan");
                x.gives(0, "dressOf", 0);
                x.gives(0, "least", 0, 0);
                x.done("take", r, s);
            }
        }
    }

    /** The same with all 200 THINGS: the last of them alone is in a SLOT of a RACK, and none. */
    private static void theLastOf200Things() {
        Run x = new Run("the last of 200 THINGS");
        x.done("rack", 1);
        for (int t = 0; t < 200; t++) {
            x.done("wear", 3);
        }
        x.done("size", 199, 0, 100);
        actors(x, 100);
        x.done("role", 0, 0);
        x.refused(12, "plan");
        x.refused(12, "least", 0, 199);
        x.done("put", 0, 0, 199);
        x.gives(0, "plan");
        dresses(x, 199);
        x.gives(0, "least", 0, 199);
        x.refused(10, "least", 0, 200);
    }

    /** "the first 8 of these by THINGS' numbers" */
    private static void theFirstEightByNumbers() {
        Run x = masks("the first 8", 107, 106, 105, 104, 103, 102, 101, 100);
        actors(x, 99);
        x.done("role", 0, 0);
        x.gives(5, "plan");
        dresses(x, 7);
        // A ninth is not looked at, wherever it stands and however well it fits.
        x.done("wear", 3);
        x.done("size", 8, 0, 99);
        x.done("put", 0, 39, 8);
        x.gives(5, "plan");
        dresses(x, 7);
        x.refused(12, "least", 0, 8);
        for (int t = 0; t < 8; t++) {
            x.gives(5 * (8 - t), "least", 0, t);
        }
        // One before it goes: it is the eighth.
        x.done("take", 0, 3);
        x.gives(0, "plan");
        dresses(x, 8);
        x.gives(0, "least", 0, 8);
        x.refused(12, "least", 0, 3);
    }

    /** "A PLAN gives each ROLE a WEAR of those": TRUNKS and ROWS on a RACK are none of the 8, a SET is. */
    private static void theEightAreWearAlone() {
        Run x = new Run("8 of WEAR");
        x.done("rack", 40);
        x.done("trunk", 1);
        x.done("row", 6, 1);
        x.done("row", 7, 1);
        x.done("row", 8, 1);
        for (int t = 0; t < 4; t++) {
            x.done("put", 0, t, t);
        }
        for (int t = 4; t < 11; t++) {
            x.done("put", 0, t, x.done("set"));
        }
        int eighth = x.done("wear", 3);
        int ninth = x.done("wear", 3);
        x.done("size", eighth, 0, 101);
        x.done("reach", eighth, 0, 1, 0);
        x.done("size", ninth, 0, 100);
        x.done("put", 0, 20, eighth);
        x.done("put", 0, 19, ninth);
        actors(x, 100);
        x.done("role", 0, 0);
        x.gives(5, "plan");
        dresses(x, eighth);
        x.refused(12, "least", 0, ninth);
        x.done("take", 0, 4);
        x.gives(0, "plan");
        dresses(x, ninth);
    }

    /** "the first 8 of these (..), so that: it FITS the ACTOR": what does not FIT is among the 8 all the same. */
    private static void theEightAreChosenBeforeTheyFit() {
        Run x = new Run("8 that do not FIT");
        x.done("rack", 40);
        for (int t = 0; t < 9; t++) {
            x.done("wear", 3);
            x.done("put", 0, t, t);
        }
        x.done("size", 8, 0, 100);
        actors(x, 100);
        x.done("role", 0, 0);
        x.refused(12, "plan");
        x.done("size", 7, 0, 100);
        x.gives(0, "plan");
        dresses(x, 7);
    }

    /** "it FITS the ACTOR (1)": not one that is wrong, nor one that is OPEN. */
    private static void aFitOfOneAlone() {
        Run x = masks("a FIT of 1", 100);
        x.done("actor");
        x.done("role", 0, 0);
        x.gives(2, "fits", 0, 0);
        x.refused(12, "plan");
        x.refused(12, "least", 0, 0);
        x.done("measure", 0, 0, 5 * 160 + 1);
        x.gives(0, "fits", 0, 0);
        x.refused(12, "plan");
        x.done("measure", 0, 0, 5 * 160);
        x.gives(300, "plan");
        x.done("measure", 0, 0, 5 * 39);
        x.refused(12, "plan");
        x.done("measure", 0, 0, 5 * 39 + 1);
        x.gives(300, "plan");
        x.done("measure", 0, 0, -2);
        x.refused(12, "plan");
    }

    /** "no two ROLES of one SCENE have the same one" */
    private static void noTwoOfOneScene() {
        Run x = masks("one SCENE", 100);
        actors(x, 100, 100, 100);
        x.done("role", 0, 0);
        x.gives(0, "plan");
        x.done("role", 1, 0);
        x.refused(12, "plan");
        x.refused(12, "least", 0, 0);
        x.done("wear", 3);
        x.done("size", 1, 0, 100);
        x.done("put", 0, 1, 1);
        x.gives(0, "plan");
        dresses(x, 0, 1);
        x.done("role", 2, 0);
        x.refused(12, "plan");
    }

    /** "no two ROLES of one SCENE": one THING serves in all ten SCENES, by one ACTOR or another. */
    private static void oneForDifferentScenes() {
        Run x = masks("different SCENES", 100);
        actors(x, 100, 101);
        for (int r = 0; r < 7; r++) {
            x.done("role", r % 2, r + 3);
        }
        x.gives(3 * 5, "plan");
        dresses(x, 0, 0, 0, 0, 0, 0, 0);
    }

    /**
     * ACTOR 0 must go from THING 0 to THING 1 between two SCENES: ACTOR 2 can have THING 1 alone in the
     * earlier, ACTOR 1 THING 0 alone in the later. Each THING is a list of KINDS, a SET if there are several.
     */
    private static Run forcedChange(String about, int[] from, int[] to) {
        Run x = new Run(about);
        x.done("rack", 3);
        x.done(from.length == 1 ? "wear" : "set", from.length == 1 ? from : new int[0]);
        x.done(to.length == 1 ? "wear" : "set", to.length == 1 ? to : new int[0]);
        fill(x, 0, from, 100, 20);
        fill(x, 1, to, 120, 5);
        x.done("put", 0, 0, 0);
        x.done("put", 0, 2, 1);
        int[] wanted = {120, 100, 125};
        for (int a = 0; a < 3; a++) {
            x.done("actor");
            for (int part = 0; part < 6; part++) {
                x.done("measure", a, part, 5 * wanted[a]);
            }
        }
        return x;
    }

    private static void fill(Run x, int thing, int[] kinds, int size, int out) {
        for (int s = 0; s < kinds.length; s++) {
            int t = kinds.length == 1 ? thing : x.done("wear", kinds[s]);
            for (int part = 0; part < 6; part++) {
                x.done("size", t, part, size);
                x.done("reach", t, part, 0, out);
            }
            if (kinds.length > 1) {
                x.done("put", 1000 + thing, s, t);
            }
        }
    }

    private static void changeRoles(Run x, int earlier, int later) {
        x.gives(0, "role", 0, earlier);
        x.gives(1, "role", 0, later);
        x.gives(2, "role", 2, earlier);
        x.gives(3, "role", 1, later);
    }

    /** ACTOR 0 takes 20 steps for THING 0, ACTOR 2 takes 5 for THING 1; the others fit as they are. */
    private static int changeCost(int[] from, int[] to) {
        int sum = 0;
        for (int kind : from) {
            sum += 20 * NEEDED[kind] * PRICES[kind] + MORE[kind];
        }
        for (int kind : to) {
            sum += 5 * NEEDED[kind] * PRICES[kind] + MORE[kind];
        }
        return sum;
    }

    private static void changes(Run x, int[] from, int[] to) {
        x.gives(changeCost(from, to), "plan");
        dresses(x, 0, 1, 1, 0);
    }

    /** "the minutes of all SCENES between them are no less than the later one's MINUTES": just so many, and one less. */
    private static void changeTakesTheMinutesOfEachKind() {
        for (int from = 0; from < 4; from++) {
            for (int to = 0; to < 4; to++) {
                int[] one = {from};
                int[] other = {to};
                Run x = forcedChange("from KIND " + from + " to " + to, one, other);
                changeRoles(x, 0, 2);
                x.refused(12, "plan");
                x.done("scene", 1, MINUTES[to] - 1);
                x.refused(12, "plan");
                x.done("scene", 1, MINUTES[to]);
                changes(x, one, other);
            }
        }
    }

    /** The same for a SET: "a SET the sum of those in it", here up to six UNIFORMS. */
    private static void changeTakesTheMinutesOfASet() {
        int[][] sets = {{0, 1}, {3, 3, 3}, {1, 1, 1, 1, 1, 1}, {2, 2, 2, 2, 2, 2}};
        int[] minutes = {4, 9, 6, 36};
        for (int k = 0; k < sets.length; k++) {
            int[] mask = {3};
            Run x = forcedChange("to a SET of " + minutes[k], mask, sets[k]);
            changeRoles(x, 7, 9);
            x.done("scene", 8, minutes[k] - 1);
            x.refused(12, "plan");
            x.done("scene", 8, minutes[k]);
            changes(x, mask, sets[k]);
            // From the SET to the MASK it is the MASK's 3.
            x = forcedChange("from a SET of " + minutes[k], sets[k], mask);
            changeRoles(x, 7, 9);
            x.done("scene", 8, 2);
            x.refused(12, "plan");
            x.done("scene", 8, 3);
            changes(x, sets[k], mask);
        }
    }

    /** "no less than the later one's MINUTES": not the earlier one's, nor both. */
    private static void changeTakesTheLaterOnesMinutes() {
        int[] uniform = {2};
        int[] coat = {1};
        Run x = forcedChange("UNIFORM, then COAT", uniform, coat);
        changeRoles(x, 0, 2);
        x.done("scene", 1, 1);
        changes(x, uniform, coat);
        x = forcedChange("COAT, then UNIFORM", coat, uniform);
        changeRoles(x, 0, 2);
        x.done("scene", 1, 5);
        x.refused(12, "plan");
        x.done("scene", 1, 6);
        changes(x, coat, uniform);
    }

    /** "the minutes of all SCENES between them": not of these two themselves, nor of others; next to one another there are none. */
    private static void changeCountsScenesBetweenAlone() {
        int[] mask = {3};
        int[] coat = {1};
        Run x = forcedChange("SCENES 4 and 5", mask, coat);
        changeRoles(x, 4, 5);
        for (int scene = 0; scene < 10; scene++) {
            x.done("scene", scene, 90);
        }
        x.refused(12, "plan");
        x = forcedChange("SCENES 4 and 6", mask, coat);
        changeRoles(x, 4, 6);
        for (int scene = 0; scene < 10; scene++) {
            x.done("scene", scene, scene == 5 ? 0 : 90);
        }
        x.refused(12, "plan");
        x.done("scene", 5, 1);
        changes(x, mask, coat);
    }

    /** "the minutes of all SCENES between them": their sum. */
    private static void changeSumsAllScenesBetween() {
        int[] coat = {1};
        int[] uniform = {2};
        Run x = forcedChange("the sum of SCENES 2 to 6", coat, uniform);
        changeRoles(x, 1, 7);
        for (int scene = 2; scene < 7; scene++) {
            x.done("scene", scene, 1);
            x.refused(12, "plan");
        }
        for (int scene = 2; scene < 7; scene++) {
            x.done("scene", scene, 2);
            changes(x, coat, uniform);
            x.done("scene", scene, 1);
        }
    }

    /** The same from SCENE 0 to SCENE 9, each between at 0 and at 90 minutes. */
    private static void changeBetweenFirstAndLast() {
        int[] mask = {3};
        int[] set = {2, 2, 2, 2, 2, 2};
        Run x = forcedChange("SCENES 0 and 9", mask, set);
        changeRoles(x, 0, 9);
        x.done("scene", 0, 90);
        x.done("scene", 9, 90);
        x.refused(12, "plan");
        for (int scene : new int[] {1, 8}) {
            x.done("scene", scene, 90);
            changes(x, mask, set);
            x.done("scene", scene, 0);
            x.refused(12, "plan");
        }
        for (int scene = 1; scene < 9; scene++) {
            x.done("scene", scene, 90);
        }
        changes(x, mask, set);
    }

    /** "if an ACTOR has ROLES in two SCENES, none between": a ROLE between parts the time in two. */
    private static void changeIsBetweenNeighbours() {
        int[] mask = {3};
        Run x = forcedChange("no ROLE between", mask, mask);
        changeRoles(x, 0, 4);
        x.done("scene", 1, 2);
        x.done("scene", 2, 90);
        x.done("scene", 3, 2);
        changes(x, mask, mask);
        x.gives(4, "role", 0, 2);
        x.refused(12, "plan");
        x.done("scene", 1, 3);
        // The change is before SCENE 2: THING 1 in it, which costs ACTOR 0 nothing.
        x.gives(changeCost(mask, mask), "plan");
        dresses(x, 0, 1, 1, 0, 1);
        x.refused(12, "least", 4, 0);
        x.done("scene", 1, 2);
        x.done("scene", 3, 3);
        x.gives(changeCost(mask, mask) + 100, "plan");
        dresses(x, 0, 1, 1, 0, 0);
        x.refused(12, "least", 4, 1);
        // Another ACTOR's ROLE between is none of this one's.
        x.done("clear");
        changeRoles(x, 0, 4);
        x.done("scene", 3, 2);
        x.gives(4, "role", 1, 2);
        x.gives(changeCost(mask, mask), "plan");
    }

    /** "with different WEAR": the same takes no time. */
    private static void theSameWearTakesNoTime() {
        Run x = masks("the same WEAR", 100, 100);
        actors(x, 100);
        for (int scene = 0; scene < 7; scene++) {
            x.done("role", 0, scene);
        }
        x.gives(0, "plan");
        dresses(x, 0, 0, 0, 0, 0, 0, 0);
        x.gives(0, "least", 3, 1);
        // One of two masks is nearer, but there is no time to change: all in the one that is cheaper in all.
        x = masks("no time for the nearer", 100, 104);
        actors(x, 100, 100, 104);
        x.done("role", 0, 0);
        x.done("role", 0, 1);
        x.done("role", 1, 1);
        x.gives(20, "plan");
        dresses(x, 0, 0, 1);
        x.gives(40, "least", 0, 1);
        x.gives(40, "least", 2, 0);
    }

    /** "Scenes come in order": which of two ROLES is the later goes by the SCENES, not by the ROLES' numbers. */
    private static void rolesByAnyNumberAreLaterByScene() {
        int[] coat = {1};
        int[] uniform = {2};
        Run x = forcedChange("the later ROLE has the lower number", uniform, coat);
        x.gives(0, "role", 0, 9);
        x.gives(1, "role", 1, 9);
        x.gives(2, "role", 2, 7);
        x.gives(3, "role", 0, 7);
        x.refused(12, "plan");
        x.done("scene", 8, 1);
        x.gives(changeCost(uniform, coat), "plan");
        dresses(x, 1, 0, 1, 0);
        x = forcedChange("the later ROLE has the lower number, 6", coat, uniform);
        x.gives(0, "role", 0, 9);
        x.gives(1, "role", 1, 9);
        x.gives(2, "role", 2, 7);
        x.gives(3, "role", 0, 7);
        x.done("scene", 8, 5);
        x.refused(12, "plan");
        x.done("scene", 8, 6);
        x.gives(changeCost(coat, uniform), "plan");
        dresses(x, 1, 0, 1, 0);
    }

    /** "The PLAN is one of least cost": it goes ahead of the THINGS' numbers. */
    private static void leastCostGoesAheadOfNumbers() {
        Run x = masks("least cost first", 101, 100);
        actors(x, 100, 100);
        x.done("role", 0, 0);
        x.gives(0, "plan");
        dresses(x, 1);
        // 5 in all either way, so that ROLE 0 has the lower one.
        x.done("role", 1, 0);
        x.gives(5, "plan");
        dresses(x, 0, 1);
        // Now it is 10 so, and nothing the other way.
        x.done("measure", 1, 0, 505);
        x.gives(0, "plan");
        dresses(x, 1, 0);
    }

    /** "of several that which gives ROLE 0 the least THING" */
    private static void roleZeroHasTheLeastThing() {
        Run x = masks("ROLE 0", 102, 98, 102);
        actors(x, 100);
        x.done("role", 0, 0);
        x.gives(10, "plan");
        dresses(x, 0);
        x.done("take", 0, 0);
        x.gives(10, "plan");
        dresses(x, 1);
        x.done("take", 0, 1);
        x.gives(10, "plan");
        dresses(x, 2);
    }

    /** "then ROLE 1, and so on": even where a later ROLE has a greater one for it. */
    private static void thenRoleOne() {
        Run x = masks("ROLE 1", 100, 100, 100, 100);
        actors(x, 100, 100, 100, 100);
        x.done("role", 3, 5);
        x.done("role", 2, 5);
        x.done("role", 1, 5);
        x.done("role", 0, 5);
        x.gives(0, "plan");
        dresses(x, 0, 1, 2, 3);
        // ROLE 2 is ROLE 0's ACTOR without time to change: it has 0 too, and so 1 and 3 have others.
        x.done("clear");
        x.done("role", 0, 5);
        x.done("role", 1, 6);
        x.done("role", 0, 6);
        x.done("role", 1, 5);
        x.gives(0, "plan");
        dresses(x, 0, 1, 0, 1);
        x.done("clear");
        x.done("role", 0, 0);
        x.done("role", 1, 2);
        x.done("role", 0, 2);
        x.done("scene", 1, 3);
        x.gives(0, "plan");
        dresses(x, 0, 0, 1);
        x.done("clear");
        x.done("role", 0, 0);
        x.done("role", 0, 2);
        x.done("role", 1, 2);
        x.gives(0, "plan");
        dresses(x, 0, 0, 1);
    }

    /** "that which gives ROLE 0 the least THING": by its number, wherever it stands. */
    private static void numbersGoByThingsNotBySlots() {
        Run x = new Run("THINGS, not SLOTS");
        x.done("rack", 2);
        x.done("rack", 2);
        for (int t = 0; t < 3; t++) {
            x.done("wear", 3);
            x.done("size", t, 0, 100);
        }
        x.done("put", 1, 1, 0);
        x.done("put", 1, 0, 1);
        x.done("put", 0, 0, 2);
        actors(x, 100, 100, 100);
        for (int a = 0; a < 3; a++) {
            x.done("role", a, 0);
        }
        x.gives(0, "plan");
        dresses(x, 0, 1, 2);
    }

    /** Promise 28: "no ROLES: it costs 0." - and the PLAN of before is gone. */
    private static void noRolesCostNothing() {
        Run x = new Run("28: plan, no ROLES");
        x.gives(0, "plan");
        x.refused(10, "dressOf", 0);
        x = masks("28: plan, no ROLES any more", 100);
        actors(x, 110);
        x.gives(0, "plan");
        x.done("role", 0, 0);
        x.gives(50, "plan");
        dresses(x, 0);
        x.done("clear");
        x.gives(0, "plan");
        x.refused(10, "dressOf", 0);
    }

    /** Promise 28: "(12: there is none ..)" - no RACKS, no WEAR, none that FITS, none left. */
    private static void thereIsNoPlan() {
        Run x = new Run("28: plan, there is none");
        x.done("actor");
        x.done("role", 0, 0);
        x.refused(12, "plan");
        x.done("rack", 1);
        x.refused(12, "plan");
        x.done("wear", 3);
        x.refused(12, "plan");
        x.done("put", 0, 0, 0);
        x.refused(12, "plan");
        x.done("size", 0, 0, 100);
        x.refused(12, "plan");
        x.done("measure", 0, 0, 500);
        x.gives(0, "plan");
        // One ROLE without WEAR is enough that there is none.
        x.done("actor");
        x.done("role", 1, 9);
        x.refused(12, "plan");
        x.done("measure", 1, 0, 500);
        x.gives(0, "plan");
    }

    /** Promise 28: "The PLAN of before is gone." - after one that is refused, too. */
    private static void thePlanOfBeforeIsGone() {
        Run x = masks("28: plan, the one before", 100, 110);
        actors(x, 100, 110);
        x.done("role", 0, 0);
        x.done("role", 1, 0);
        x.gives(0, "plan");
        dresses(x, 0, 1);
        x.done("clear");
        x.done("role", 1, 0);
        x.gives(0, "plan");
        dresses(x, 1);
        x.done("measure", 1, 0, -1);
        dresses(x, 1);
        x.refused(12, "plan");
        dresses(x);
        x.done("undo");
        dresses(x);
        x.gives(0, "plan");
        dresses(x, 1);
    }

    /** Promise 29: "(10: no such ROLE in it, or there was none)" */
    private static void dressOfWhatIsInThePlan() {
        Run x = masks("29: dressOf", 100);
        actors(x, 100);
        int[] none = {-1, 0, 6, 7, BIG, LOW};
        for (int r : none) {
            x.refused(10, "dressOf", r);
        }
        for (int n = 1; n <= 7; n++) {
            x.done("role", 0, n);
            // The ROLE is there; it is not in the latest PLAN.
            x.refused(10, "dressOf", n - 1);
            x.gives(0, "plan");
            x.gives(0, "dressOf", n - 1);
            x.refused(10, "dressOf", n);
            x.refused(10, "dressOf", -1);
        }
        x.refused(10, "dressOf", BIG);
        x.refused(10, "dressOf", LOW);
        // The ROLES are gone, the latest PLAN is what it was.
        x.gives(7, "clear");
        x.gives(0, "dressOf", 6);
        x.refused(10, "dressOf", 7);
    }

    /** Promise 28: "of ROLES and WEAR as they are now"; Promise 29: "that the latest plan() gave a ROLE". */
    private static void planIsOfRolesAndWearAsTheyAreNow() {
        Run x = masks("28: as they are now", 100, 104);
        actors(x, 104);
        x.done("role", 0, 0);
        x.gives(0, "plan");
        x.done("take", 0, 1);
        dresses(x, 1);
        x.gives(20, "plan");
        dresses(x, 0);
        x.done("undo");
        dresses(x, 0);
        x.done("hire", 1, 1);
        x.gives(20, "plan");
        x.done("back", 0, 0, 39, 1);
        x.gives(0, "plan");
        dresses(x, 1);
        x.done("alter", 0, 0, 4);
        x.gives(0, "plan");
        dresses(x, 0);
    }

    /** Promise 30: "(10: no such ROLE, THING ..)" */
    private static void leastOfNoSuchRoleOrThing() {
        Run x = masks("30: least, no such", 100);
        actors(x, 100);
        x.refused(10, "least", 0, 0);
        for (int n = 1; n <= 7; n++) {
            x.gives(n - 1, "role", 0, n);
            x.gives(0, "least", n - 1, 0);
            x.refused(10, "least", n, 0);
        }
        for (int r : new int[] {-1, 7, 8, BIG, LOW}) {
            x.refused(10, "least", r, 0);
        }
        for (int t : new int[] {-1, 1, 200, BIG, LOW}) {
            x.refused(10, "least", 6, t);
        }
        x.done("clear");
        x.refused(10, "least", 0, 0);
    }

    /** Promise 30: "(.. 12: there is none)" */
    private static void leastWhereThereIsNone() {
        Run x = masks("30: least, there is none", 100, 200);
        x.done("trunk", 1);
        x.done("row", 6, 1);
        x.done("set");
        x.done("wear", 3);
        for (int t = 2; t < 5; t++) {
            x.done("put", 0, t, t);
        }
        actors(x, 100, 200);
        x.done("role", 0, 0);
        x.gives(0, "least", 0, 0);
        // It does not FIT; a TRUNK; a ROW; a SET with nothing in it; at hand.
        for (int t = 1; t < 6; t++) {
            x.refused(12, "least", 0, t);
        }
        x.done("role", 1, 0);
        x.gives(0, "least", 0, 0);
        x.gives(0, "least", 1, 1);
        x.refused(12, "least", 1, 0);
        x.done("take", 0, 1);
        // ROLE 0 could have it, but then there is nothing for ROLE 1.
        x.refused(12, "least", 0, 0);
    }

    /** Promise 30: "The least cost of all PLANS (as things are now) that give a ROLE a WEAR: the proof of the one that plan() gives." */
    private static void leastIsTheProofOfThePlan() {
        Run x = masks("30: least, the proof", 100, 103, 110);
        actors(x, 100, 103);
        x.done("role", 0, 0);
        x.done("role", 1, 0);
        x.gives(0, "plan");
        dresses(x, 0, 1);
        int[][] due = {{0, 30, 50}, {30, 0, 35}};
        for (int r = 0; r < 2; r++) {
            for (int t = 0; t < 3; t++) {
                x.gives(due[r][t], "least", r, t);
            }
        }
        dresses(x, 0, 1);
        x.done("take", 0, 0);
        x.gives(50, "least", 0, 2);
        x.gives(50, "least", 1, 2);
        dresses(x, 0, 1);
    }

    /** Seven ROLES in one SCENE, eight WEAR: all full; with six WEAR there is none. */
    private static void sevenRolesAndEightWear() {
        Run x = masks("7 ROLES, 8 WEAR", 107, 106, 105, 104, 103, 102, 101, 100);
        actors(x, 100, 101, 102, 103, 104, 105, 106);
        for (int a = 0; a < 7; a++) {
            x.done("role", a, 9);
        }
        x.gives(0, "plan");
        dresses(x, 7, 6, 5, 4, 3, 2, 1);
        for (int r = 0; r < 7; r++) {
            x.gives(5 * (7 - r), "least", r, 0);
        }
        x.done("take", 0, 7);
        // 35 in all, whichever of them has the widest: of these PLANS ROLE 0 has it, the least THING.
        x.gives(35, "plan");
        dresses(x, 0, 6, 5, 4, 3, 2, 1);
        x.done("take", 0, 0);
        x.refused(12, "plan");
    }

    /** "Its cost is the sum of all COSTS. The PLAN is one of least cost; of several ..": of all that there are. */
    private static void planIsTheLeastOfAll() {
        for (int seed = 0; seed < 40; seed++) {
            Random random = new Random(seed);
            Run x = new Run("the least of all, " + seed);
            x.done("rack", 9);
            int range = 1 + random.nextInt(4);
            for (int t = 0; t < 8; t++) {
                x.done("wear", random.nextInt(4));
                for (int part = 0; part < 6; part++) {
                    x.done("size", t, part, 100 + random.nextInt(range));
                    x.done("reach", t, part, 4, 4);
                }
                x.done("put", 0, 8 - t, t);
            }
            int people = 3 + random.nextInt(5);
            for (int a = 0; a < people; a++) {
                x.done("actor");
                for (int part = 0; part < 6; part++) {
                    x.done("measure", a, part, 5 * (100 + random.nextInt(range)));
                }
            }
            All all = new All(x, people, random);
            int[] best = all.best();
            if (best == null) {
                x.refused(12, "plan");
            } else {
                x.gives(all.bestCost, "plan");
                dresses(x, best);
                x.gives(all.bestCost, "least", 6, best[6]);
            }
        }
    }

    /** All ways to give eight THINGS to seven ROLES, in the order in which the document prefers them. */
    private static final class All {
        final int[][] roles = new int[7][2];
        final int[][] costs = new int[7][8];
        final int[] minutes = new int[8];
        final int[] lengths = new int[10];
        final int[] given = new int[7];
        int[] best;
        int bestCost = BIG;

        All(Run x, int people, Random random) {
            for (int scene = 0; scene < 10; scene++) {
                lengths[scene] = random.nextInt(4);
                x.done("scene", scene, lengths[scene]);
            }
            for (int t = 0; t < 8; t++) {
                minutes[t] = x.done("minutes", t);
            }
            int scenes = 3 + random.nextInt(7);
            boolean[][] isTaken = new boolean[people][10];
            for (int r = 0; r < 7; r++) {
                do {
                    roles[r][0] = random.nextInt(people);
                    roles[r][1] = random.nextInt(scenes);
                } while (isTaken[roles[r][0]][roles[r][1]]);
                isTaken[roles[r][0]][roles[r][1]] = true;
                x.is(r, "role", roles[r][0], roles[r][1]);
                for (int t = 0; t < 8; t++) {
                    costs[r][t] = x.done("cost", roles[r][0], t);
                }
            }
        }

        int[] best() {
            seek(0, 0);
            return best;
        }

        private void seek(int r, int cost) {
            if (r == 7) {
                if (cost < bestCost) {
                    bestCost = cost;
                    best = given.clone();
                }
                return;
            }
            for (int t = 0; t < 8; t++) {
                given[r] = t;
                if (mayHave(r)) {
                    seek(r + 1, cost + costs[r][t]);
                }
            }
        }

        private boolean mayHave(int r) {
            for (int q = 0; q < r; q++) {
                boolean isSame = given[q] == given[r];
                if (roles[q][1] == roles[r][1] && isSame || !isSame && !canChange(q, r)) {
                    return false;
                }
            }
            return true;
        }

        private boolean canChange(int q, int r) {
            int first = roles[q][1] < roles[r][1] ? q : r;
            int last = first == q ? r : q;
            int time = 0;
            for (int scene = roles[first][1] + 1; scene < roles[last][1]; scene++) {
                for (int[] role : roles) {
                    if (role[0] == roles[r][0] && role[1] == scene) {
                        return true;
                    }
                }
                time += lengths[scene];
            }
            return roles[q][0] != roles[r][0] || time >= minutes[given[last]];
        }
    }
}
