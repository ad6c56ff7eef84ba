import java.lang.reflect.Method;
import java.util.ArrayList;
import java.util.HashMap;
import java.util.List;
import java.util.Map;
import java.util.Set;

/**
 * A run of calls on a new object, at most 512. Each answer is compared with the one that is due; what
 * is refused is also compared with the same run without it, as it may change nothing but the STATUS.
 */
final class Run {
    static final int BIG = Integer.MAX_VALUE;
    static final int LOW = Integer.MIN_VALUE;
    static final int MOST_CALLS = 512;

    private static final Set<String> NEVER_REFUSED = Set.of("clear", "purse", "spent", "status", "digest");
    private static final Map<String, Method> FACE = face();

    /** One call, by the name of the method. */
    record Call(String name, int... args) {
        int on(CostumeStock stock) {
            Object[] boxed = new Object[args.length];
            for (int k = 0; k < args.length; k++) {
                boxed[k] = args[k];
            }
            try {
                return (Integer) FACE.get(name).invoke(stock, boxed);
            } catch (ReflectiveOperationException e) {
                throw new IllegalStateException(told(), e);
            }
        }

        String told() {
            StringBuilder told = new StringBuilder(name).append('(');
            for (int k = 0; k < args.length; k++) {
                told.append(k == 0 ? "" : ", ").append(args[k]);
            }
            return told.append(')').toString();
        }
    }

    private final String about;
    private final CostumeStock stock = new CostumeStock();
    private final List<Call> calls = new ArrayList<>();
    private int number;
    private int dueStatus;
    private int things;
    private int racks;
    private int actors;

    Run(String about) {
        this.about = about;
    }

    private static Map<String, Method> face() {
        Map<String, Method> face = new HashMap<>();
        for (Method method : CostumeStock.class.getMethods()) {
            if (method.getDeclaringClass() == CostumeStock.class) {
                face.put(method.getName(), method);
            }
        }
        return face;
    }

    /** A call that is done; its answer is handed on. */
    int done(String name, int... args) {
        Call call = new Call(name, args);
        int got = ask(call);
        if (got == -1) {
            Due.answer(where(call) + ", status()", new Call("status").on(stock), 0);
        }
        keep(call, got);
        return got;
    }

    /** A call that is done, with its answer; the STATUS is not looked at, which saves a call. */
    void is(int want, String name, int... args) {
        Call call = new Call(name, args);
        int got = ask(call);
        Due.answer(where(call), got, want);
        keep(call, got);
    }

    /** A call that is done, with its answer, and STATUS 0 (or that of before, if it can't be refused). */
    void gives(int want, String name, int... args) {
        is(want, name, args);
        sameStatus(new Call(name, args));
    }

    /** A call that is refused: -1, the STATUS, the LOCKS that it takes all the same, and nothing else. */
    void refused(int why, String name, int... args) {
        Call call = new Call(name, args);
        Due.answer(where(call), ask(call), -1);
        dueStatus = why;
        sameStatus(call);
        int[] locks = locksOfRefused(name, why);
        new Twins(where(call), calls, call).compare(things, racks, actors, locks);
        calls.add(call);
    }

    /** So many LOCKS of the house and of HOLDERS were taken so far, and none is kept. */
    void locked(int house, int holders) {
        is(house, "locks", 0);
        is(holders, "locks", 1);
        is(0, "locks", 2);
    }

    private int ask(Call call) {
        number++;
        if (number > MOST_CALLS) {
            Due.answer(where(call) + " is call", number, MOST_CALLS);
        }
        return call.on(stock);
    }

    private void sameStatus(Call call) {
        Due.answer(where(call) + ", then status()", ask(new Call("status")), dueStatus);
    }

    private String where(Call call) {
        return about + ": " + call.told();
    }

    private void keep(Call call, int got) {
        calls.add(call);
        if (!NEVER_REFUSED.contains(call.name)) {
            dueStatus = 0;
        }
        switch (call.name) {
            case "wear": case "set": case "trunk": case "row": things = got + 1; break;
            case "rack": racks = got + 1; break;
            case "actor": actors = got + 1; break;
            default: break;
        }
    }

    /** Terms 5: which of a call's refusals stand behind its LOCKS. */
    private int[] locksOfRefused(String name, int why) {
        int[] none = {0, 0};
        int[] both = {1, 1};
        switch (name) {
            case "put": case "take": case "inside": case "back":
                return why == 1 || why == 10 ? none : both;
            case "hire":
                return why == 6 ? both : none;
            case "find":
                return why == 3 ? new int[] {1, holdersOnRacks()} : none;
            case "plan": case "least":
                return why == 12 ? new int[] {1, racks} : none;
            default:
                return none;
        }
    }

    private int holdersOnRacks() {
        CostumeStock copy = again(calls);
        int before = copy.locks(1);
        for (int r = 0; r < racks; r++) {
            copy.count(r);
        }
        return copy.locks(1) - before;
    }

    static CostumeStock again(List<Call> calls) {
        CostumeStock copy = new CostumeStock();
        calls.forEach(call -> call.on(copy));
        return copy;
    }
}
