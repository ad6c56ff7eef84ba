import java.lang.reflect.Method;
import java.util.ArrayList;
import java.util.Arrays;
import java.util.Comparator;
import java.util.List;
import java.util.Random;

/** All promises: long runs of calls, each answered by the class as the model answers it. */
public final class ModelTest {
    private static final String[] MANY = {
        "put", "put", "put", "put", "take", "hire", "back", "back", "size", "size", "reach", "alter", "alter",
        "measure", "measure", "fits", "cost", "role", "scene", "plan", "least", "dressOf", "undo", "find", "count",
    };
    private static final int[] ODD = {Integer.MIN_VALUE, Integer.MAX_VALUE, -2, -1, 0, 1, 1000, 1001, 3000};

    private final Random random;
    private final CostumeStock stock = new CostumeStock();
    private final Model model = new Model();
    private final StringBuilder told = new StringBuilder();
    private int things;
    private boolean isSame = true;

    private ModelTest(long seed) {
        random = new Random(seed);
    }

    public static void main(String[] args) throws Exception {
        List<Method[]> face = face();
        for (int seed = 0; seed < 700; seed++) {
            ModelTest test = new ModelTest(seed);
            test.start(seed);
            // With status() after each and digest() after every tenth they stay under 512.
            for (int k = 1; k <= 205 && test.isSame; k++) {
                test.callAny(face);
                if (k % 10 == 0) {
                    test.sameDigest();
                }
            }
            test.tell("run " + seed);
        }
        for (int seed = 0; seed < 2500; seed++) {
            ModelTest test = new ModelTest(1000000 + seed);
            test.planMuch();
            test.tell("plans " + seed);
        }
        beyondTheLast(face);
        Due.end();
    }

    /** After 512 calls the answers are free; still no call may throw, nor keep a LOCK. */
    private static void beyondTheLast(List<Method[]> face) throws Exception {
        for (int seed = 0; seed < 20; seed++) {
            ModelTest test = new ModelTest(2000000 + seed);
            test.start(seed);
            for (int k = 0; k < 5000; k++) {
                Method method = test.pick(face)[0];
                method.invoke(test.stock, test.arguments(method));
            }
            Due.answer("locks(2) after 5000 calls", test.stock.locks(2), 0);
        }
    }

    private static List<Method[]> face() throws Exception {
        List<Method[]> face = new ArrayList<>();
        for (Method method : CostumeStock.class.getDeclaredMethods()) {
            if (java.lang.reflect.Modifier.isPublic(method.getModifiers())) {
                face.add(new Method[] {method, Model.class.getDeclaredMethod(method.getName(), method.getParameterTypes())});
            }
        }
        // Their order is the machine's own; the runs must be the same everywhere.
        face.sort(Comparator.comparing(pair -> pair[0].getName()));
        return face;
    }

    private void tell(String run) {
        if (!isSame) {
            System.out.println(run + ":" + told);
        }
    }

    private void same(String call, Object got, Object want) {
        told.append(' ').append(call).append(" = ").append(got).append(';');
        if (!got.equals(want)) {
            isSame = false;
            Due.answer(call, ((Integer) got).longValue(), ((Integer) want).longValue());
        }
    }

    private void sameStatus() {
        same("status()", stock.status(), model.status());
    }

    private void sameDigest() {
        same("digest()", stock.digest(), model.digest());
    }

    private void start(int seed) {
        for (int r = 0; r < 1 + seed % 3; r++) {
            int n = 2 + random.nextInt(5);
            same("rack(" + n + ")", stock.rack(n), model.rack(n));
        }
        int masks = seed % 4 == 0 ? 4 : 1;
        for (int k = 0; k < 8; k++) {
            int kind = random.nextInt(masks) > 0 ? 3 : random.nextInt(4);
            same("wear(" + kind + ")", stock.wear(kind), model.wear(kind));
        }
        same("set()", stock.set(), model.set());
        for (int k = 0; k < (seed % 2 == 0 ? 2 : 9); k++) {
            same("trunk(2)", stock.trunk(2), model.trunk(2));
        }
        for (int a = 0; a < 2 + seed % 2; a++) {
            same("actor()", stock.actor(), model.actor());
        }
        same("row(7, 2)", stock.row(7, 2), model.row(7, 2));
        things = seed % 2 == 0 ? 12 : 19;
        if (seed % 4 == 0) {
            fitMasks();
        }
    }

    /** So that there are fittings and PLANS from the start. */
    private void fitMasks() {
        for (int t = 0; t < 8; t++) {
            int size = 100 + random.nextInt(6);
            same("size()", stock.size(t, 0, size), model.size(t, 0, size));
            same("reach()", stock.reach(t, 0, 10, 10), model.reach(t, 0, 10, 10));
            same("put()", stock.put(0, t, t), model.put(0, t, t));
        }
        for (int a = 0; a < 2; a++) {
            int measure = 500 + random.nextInt(30);
            same("measure()", stock.measure(a, 0, measure), model.measure(a, 0, measure));
        }
    }

    private Method[] pick(List<Method[]> face) {
        String name = random.nextInt(5) > 0 ? MANY[random.nextInt(MANY.length)] : null;
        for (Method[] pair : face) {
            if (pair[0].getName().equals(name)) {
                return pair;
            }
        }
        return face.get(random.nextInt(face.size()));
    }

    private void callAny(List<Method[]> face) throws Exception {
        Method[] pair = pick(face);
        Object[] arguments = arguments(pair[0]);
        String call = pair[0].getName() + Arrays.toString(arguments);
        same(call, pair[0].invoke(stock, arguments), pair[1].invoke(model, arguments));
        sameStatus();
    }

    private Object[] arguments(Method method) {
        String name = method.getName();
        Object[] arguments = new Object[method.getParameterCount()];
        for (int k = 0; k < arguments.length; k++) {
            boolean isOdd = random.nextInt(40) == 0;
            arguments[k] = isOdd ? ODD[random.nextInt(ODD.length)] : argument(name, k);
        }
        return arguments;
    }

    private int argument(String name, int k) {
        switch (name + k) {
            case "put0": case "take0": case "inside0": case "back1": case "count0":
                return random.nextInt(3) > 0 ? random.nextInt(3) : 1008 + random.nextInt(things - 8);
            case "put1": case "take1": case "inside1": case "back2":
                return random.nextInt(5);
            case "size2":
                return random.nextInt(8) == 0 ? random.nextInt(257) : 100 + random.nextInt(6);
            case "reach2": case "reach3":
                return random.nextInt(8) == 0 ? random.nextInt(62) : 4 + random.nextInt(10);
            case "alter2":
                return random.nextInt(17) - 8;
            case "measure2":
                return random.nextInt(8) == 0 ? random.nextInt(3) - 2 : 500 + random.nextInt(30);
            case "write2":
                return random.nextInt(3003) - 2;
            case "hire1": case "back3":
                return random.nextInt(100);
            case "rack0": case "trunk0": case "row1":
                return 1 + random.nextInt(3);
            case "row0":
                return 6 + random.nextInt(3);
            case "measure0": case "fits0": case "cost0": case "role0": case "find0":
                return random.nextInt(4) - (name.equals("find") ? 1 : 0);
            case "size1": case "reach1": case "alter1": case "sizeOf1": case "measure1":
                return random.nextInt(2) == 0 ? 0 : random.nextInt(6);
            case "back0":
                return random.nextInt(5);
            case "role1": case "scene0":
                return random.nextInt(10);
            case "scene1": case "least0": case "dressOf0": case "wear0": case "find1": case "share1":
                return random.nextInt(7);
            case "locks0": case "value1": case "write1": case "sizeOf2":
                return random.nextInt(3);
            default:
                return random.nextInt(things + 2);
        }
    }

    /** Many THINGS that fit, many ROLES: each PLAN is compared with the best of all PLANS. */
    private void planMuch() {
        int slots = 9;
        same("rack(9)", stock.rack(slots), model.rack(slots));
        int range = random.nextInt(3) == 0 ? 1 : 1 + random.nextInt(8);
        int masks = random.nextInt(3);
        int number = 2 + random.nextInt(4);
        for (int t = 0; t < number; t++) {
            int kind = random.nextInt(3) < masks ? 3 : random.nextInt(4);
            same("wear()", stock.wear(kind), model.wear(kind));
            for (int part = 0; part < 6; part++) {
                int size = 100 + random.nextInt(range);
                int reach = random.nextInt(10) + range / 2;
                same("size()", stock.size(t, part, size), model.size(t, part, size));
                same("reach()", stock.reach(t, part, reach, reach), model.reach(t, part, reach, reach));
            }
            same("put()", stock.put(0, number - t, t), model.put(0, number - t, t));
        }
        int people = 1 + random.nextInt(5);
        for (int a = 0; a < people; a++) {
            same("actor()", stock.actor(), model.actor());
            for (int part = 0; part < 6; part++) {
                int measure = 500 + random.nextInt(5 * range);
                same("measure()", stock.measure(a, part, measure), model.measure(a, part, measure));
            }
        }
        for (int scene = 0; scene < 10; scene++) {
            int minutes = random.nextInt(6);
            same("scene()", stock.scene(scene, minutes), model.scene(scene, minutes));
        }
        int last = 1 + random.nextInt(10);
        int tries = 2 + random.nextInt(11);
        for (int k = 0; k < tries; k++) {
            int a = random.nextInt(people);
            int scene = random.nextInt(last);
            same("role(" + a + ", " + scene + ")", stock.role(a, scene), model.role(a, scene));
        }
        same("plan()", stock.plan(), model.plan());
        for (int r = 0; r < 7; r++) {
            same("dressOf(" + r + ")", stock.dressOf(r), model.dressOf(r));
            int t = random.nextInt(number);
            same("least(" + r + ", " + t + ")", stock.least(r, t), model.least(r, t));
        }
        sameStatus();
        sameDigest();
    }
}
