import java.util.ArrayDeque;
import java.util.ArrayList;
import java.util.Arrays;
import java.util.Deque;
import java.util.List;

/**
 * The document told once more, in the plainest way and in another way than the class: THINGS know
 * their place and SLOTS are looked for among them, undo() sets a picture of all that was before, and
 * a PLAN is looked for among all there are.
 */
final class Model {
    private static final class Item {
        int kind;
        int slots;
        int[] values = {};
        int state;
        int home = -1;
        int slot = -1;
        int[][] parts = new int[3][6];

        /** The values of a ROW are shared: write() is not undone. */
        Item copy() {
            Item item = new Item();
            item.kind = kind;
            item.slots = slots;
            item.values = values;
            item.state = state;
            item.home = home;
            item.slot = slot;
            for (int what = 0; what < 3; what++) {
                item.parts[what] = parts[what].clone();
            }
            return item;
        }
    }

    private static final class Picture {
        final List<Item> items = new ArrayList<>();
        final List<int[]> actors = new ArrayList<>();
        final List<int[]> hires = new ArrayList<>();
        int purse;
        int spent;
    }

    private static final int[][] NEEDS = {{1, 2, 3, 5}, {1, 2, 4}, {1, 2, 4, 5}, {0}};

    private final List<Item> items = new ArrayList<>();
    private final List<Integer> racks = new ArrayList<>();
    private final List<int[]> actors = new ArrayList<>();
    private final List<int[]> roles = new ArrayList<>();
    private final List<int[]> hires = new ArrayList<>();
    private final Deque<Picture> pictures = new ArrayDeque<>();
    private final int[] scenes = new int[10];
    private int[] latestPlan = {};
    private int bestCost;
    private int purse;
    private int spent;
    private int houseLocks;
    private int holderLocks;
    private int status;

    private int no(int why) {
        status = why;
        return -1;
    }

    private int yes(int answer) {
        status = 0;
        return answer;
    }

    // ---- looking up

    private boolean isThing(int t) {
        return t >= 0 && t < items.size();
    }

    private boolean isActor(int a) {
        return a >= 0 && a < actors.size();
    }

    private int slotsOf(int h) {
        if (h >= 0 && h < racks.size()) {
            return racks.get(h);
        }
        return h >= 1000 && isThing(h - 1000) ? items.get(h - 1000).slots : 0;
    }

    private int at(int h, int s) {
        for (int t = 0; t < items.size(); t++) {
            if (items.get(t).home == h && items.get(t).slot == s) {
                return t;
            }
        }
        return -1;
    }

    private List<Item> contents(int t) {
        List<Item> list = new ArrayList<>();
        for (Item item : items) {
            if (item.home == 1000 + t) {
                list.add(item);
            }
        }
        return list;
    }

    private void locked() {
        houseLocks++;
        holderLocks++;
    }

    private void photograph() {
        Picture picture = new Picture();
        items.forEach(item -> picture.items.add(item.copy()));
        actors.forEach(actor -> picture.actors.add(actor.clone()));
        hires.forEach(hire -> picture.hires.add(hire.clone()));
        picture.purse = purse;
        picture.spent = spent;
        pictures.push(picture);
    }

    // ---- the face

    int rack(int n) {
        if (n < 1 || n > 40 || racks.size() == 12) {
            return no(6);
        }
        racks.add(n);
        return yes(racks.size() - 1);
    }

    private int make(int kind, int slots, int values) {
        if (items.size() == 200) {
            return no(6);
        }
        Item item = new Item();
        item.kind = kind;
        item.slots = slots;
        item.values = new int[values];
        items.add(item);
        return yes(items.size() - 1);
    }

    int wear(int kind) {
        return kind < 0 || kind > 3 ? no(6) : make(kind, 0, 0);
    }

    int set() {
        return make(4, 6, 0);
    }

    int trunk(int n) {
        return n < 1 || n > 20 ? no(6) : make(5, n, 0);
    }

    int row(int kind, int n) {
        return kind < 6 || kind > 8 || n < 0 || n > 40 ? no(6) : make(kind, 0, n);
    }

    private int whyNotRow(int t, int i) {
        if (!isThing(t)) {
            return 10;
        }
        if (items.get(t).kind < 6) {
            return 4;
        }
        return i < 0 || i >= items.get(t).values.length ? 2 : 0;
    }

    int write(int t, int i, int v) {
        int why = whyNotRow(t, i);
        if (why != 0) {
            return no(why);
        }
        Item item = items.get(t);
        if (item.kind == 7 && (v < -2 || v > 3000)) {
            return no(6);
        }
        item.values[i] = item.kind == 6 ? Byte.toUnsignedInt((byte) v) : item.kind == 8 ? (char) v : v;
        return yes(1);
    }

    int value(int t, int i) {
        int why = whyNotRow(t, i);
        if (why != 0) {
            return no(why);
        }
        int v = items.get(t).values[i];
        if (items.get(t).kind != 7) {
            return yes(v);
        }
        return v == -1 ? no(13) : yes(v == -2 ? Integer.MAX_VALUE : (int) (v / 10f));
    }

    int kind(int t) {
        return isThing(t) ? yes(items.get(t).kind) : no(10);
    }

    int state(int t) {
        return isThing(t) ? yes(items.get(t).state) : no(10);
    }

    int holder(int t) {
        if (!isThing(t)) {
            return no(10);
        }
        return items.get(t).state == 1 ? yes(items.get(t).home) : no(8);
    }

    private int trunksAbove(int h, int sought) {
        int n = 0;
        while (h >= 1000) {
            if (h - 1000 == sought) {
                return 1000;
            }
            n += items.get(h - 1000).kind == 5 ? 1 : 0;
            h = items.get(h - 1000).home;
        }
        return n;
    }

    private int trunksBelow(int t) {
        int n = 0;
        for (int k = 0; k < items.size(); k++) {
            if (items.get(k).home == 1000 + t) {
                n = Math.max(n, trunksBelow(k));
            }
        }
        return n + (items.get(t).kind == 5 ? 1 : 0);
    }

    private int whyNotInto(int h, int s, int t) {
        if (at(h, s) >= 0) {
            return 5;
        }
        if (h >= 1000 && items.get(h - 1000).kind == 4 && items.get(t).kind > 3) {
            return 4;
        }
        return trunksAbove(h, t) + trunksBelow(t) > 6 ? 9 : 0;
    }

    private void place(int t, int state, int h, int s) {
        items.get(t).state = state;
        items.get(t).home = h;
        items.get(t).slot = s;
    }

    int put(int h, int s, int t) {
        if (slotsOf(h) == 0) {
            return no(1);
        }
        if (!isThing(t)) {
            return no(10);
        }
        locked();
        if (s < 0 || s >= slotsOf(h)) {
            return no(2);
        }
        if (items.get(t).state != 0) {
            return no(8);
        }
        int why = whyNotInto(h, s, t);
        if (why != 0) {
            return no(why);
        }
        photograph();
        place(t, 1, h, s);
        return yes(1);
    }

    int take(int h, int s) {
        int t = inside(h, s);
        if (t >= 0) {
            photograph();
            place(t, 0, -1, -1);
        }
        return t;
    }

    int inside(int h, int s) {
        if (slotsOf(h) == 0) {
            return no(1);
        }
        locked();
        if (s < 0 || s >= slotsOf(h)) {
            return no(2);
        }
        return at(h, s) < 0 ? no(3) : yes(at(h, s));
    }

    private int whyNotPart(int t, int part) {
        if (!isThing(t)) {
            return 10;
        }
        if (items.get(t).kind > 3) {
            return 4;
        }
        return part < 0 || part > 5 ? 2 : 0;
    }

    int size(int t, int part, int n) {
        int why = whyNotPart(t, part);
        if (why != 0 || n < 0 || n > 255) {
            return no(why != 0 ? why : 6);
        }
        photograph();
        int before = items.get(t).parts[0][part];
        items.get(t).parts[0][part] = n;
        return yes(before);
    }

    int reach(int t, int part, int in, int out) {
        int why = whyNotPart(t, part);
        if (why != 0 || in < 0 || in > 60 || out < 0 || out > 60) {
            return no(why != 0 ? why : 6);
        }
        photograph();
        items.get(t).parts[1][part] = in;
        items.get(t).parts[2][part] = out;
        return yes(1);
    }

    private static int priceOfSteps(int kind, int steps) {
        return steps == 0 ? 0 : new int[] {2, 2, 3, 5}[kind] * steps + new int[] {0, 4, 4, 0}[kind];
    }

    int alter(int t, int part, int steps) {
        int why = whyNotPart(t, part);
        if (why != 0) {
            return no(why);
        }
        int[][] parts = items.get(t).parts;
        if (parts[0][part] == 0) {
            return no(12);
        }
        long size = (long) parts[0][part] + steps;
        long in = (long) parts[1][part] + steps;
        long out = (long) parts[2][part] - steps;
        if (size < 1 || size > 255 || in < 0 || in > 255 || out < 0 || out > 255) {
            return no(6);
        }
        photograph();
        parts[0][part] = (int) size;
        parts[1][part] = (int) in;
        parts[2][part] = (int) out;
        spent += priceOfSteps(items.get(t).kind, Math.abs(steps));
        return yes(priceOfSteps(items.get(t).kind, Math.abs(steps)));
    }

    int sizeOf(int t, int part, int what) {
        int why = whyNotPart(t, part);
        if (why != 0 || what < 0 || what > 2) {
            return no(why != 0 ? why : 6);
        }
        return yes(items.get(t).parts[what][part]);
    }

    int actor() {
        if (actors.size() == 40) {
            return no(6);
        }
        actors.add(new int[] {-1, -1, -1, -1, -1, -1});
        return yes(actors.size() - 1);
    }

    int measure(int a, int part, int v) {
        if (!isActor(a)) {
            return no(10);
        }
        if (part < 0 || part > 5) {
            return no(2);
        }
        if (v < -2 || v > 3000) {
            return no(6);
        }
        photograph();
        actors.get(a)[part] = v;
        return yes(1);
    }

    private int fit(int a, int t) {
        return fit(a, items.get(t), t);
    }

    private int fit(int a, Item item, int t) {
        boolean isOpen = false;
        if (item.kind == 4) {
            List<Item> all = contents(t);
            isOpen = all.isEmpty();
            for (Item one : all) {
                int fit = fit(a, one, -1);
                if (fit == 0) {
                    return 0;
                }
                isOpen = isOpen || fit == 2;
            }
            return isOpen ? 2 : 1;
        }
        for (int part : NEEDS[item.kind]) {
            int measure = actors.get(a)[part];
            int size = item.parts[0][part];
            double wanted = Math.ceil(measure / 10.0 * 2 - 1e-9);
            boolean isTold = size != 0 && measure != -1;
            if (measure == -2) {
                return 0;
            }
            if (isTold && (wanted < size - item.parts[1][part] || wanted > size + item.parts[2][part])) {
                return 0;
            }
            isOpen = isOpen || !isTold;
        }
        return isOpen ? 2 : 1;
    }

    private int price(int a, int t) {
        Item item = items.get(t);
        int sum = 0;
        for (Item one : item.kind == 4 ? contents(t) : List.of(item)) {
            int steps = 0;
            for (int part : NEEDS[one.kind]) {
                int wanted = (int) Math.ceil(actors.get(a)[part] / 10.0 * 2 - 1e-9);
                steps += Math.abs(wanted - one.parts[0][part]);
            }
            sum += priceOfSteps(one.kind, steps);
        }
        return sum;
    }

    private int whyNotWorn(int a, int t) {
        if (!isActor(a) || !isThing(t)) {
            return 10;
        }
        return items.get(t).kind > 4 ? 4 : 0;
    }

    int fits(int a, int t) {
        int why = whyNotWorn(a, t);
        return why != 0 ? no(why) : yes(fit(a, t));
    }

    int cost(int a, int t) {
        int why = whyNotWorn(a, t);
        if (why != 0) {
            return no(why);
        }
        return fit(a, t) == 1 ? yes(price(a, t)) : no(12);
    }

    private int dressing(int t) {
        Item item = items.get(t);
        int sum = 0;
        for (Item one : item.kind == 4 ? contents(t) : List.of(item)) {
            sum += new int[] {3, 1, 6, 3}[one.kind];
        }
        return sum;
    }

    int minutes(int t) {
        if (!isThing(t)) {
            return no(10);
        }
        return items.get(t).kind > 4 ? no(4) : yes(dressing(t));
    }

    int wash(int t) {
        if (!isThing(t)) {
            return no(10);
        }
        Item item = items.get(t);
        int[] days = {2, 5, 6, 0};
        if (item.kind == 3 || item.kind > 4) {
            return no(4);
        }
        if (item.kind < 3) {
            return yes(days[item.kind]);
        }
        int most = 0;
        for (Item one : contents(t)) {
            most = Math.max(most, days[one.kind]);
        }
        return yes(most + 1);
    }

    int role(int a, int scene) {
        if (!isActor(a)) {
            return no(10);
        }
        if (scene < 0 || scene > 9 || roles.size() == 7) {
            return no(6);
        }
        for (int[] role : roles) {
            if (role[0] == a && role[1] == scene) {
                return no(5);
            }
        }
        roles.add(new int[] {a, scene});
        return yes(roles.size() - 1);
    }

    int clear() {
        int n = roles.size();
        roles.clear();
        return n;
    }

    int scene(int scene, int minutes) {
        if (scene < 0 || scene > 9 || minutes < 0 || minutes > 90) {
            return no(6);
        }
        int before = scenes[scene];
        scenes[scene] = minutes;
        return yes(before);
    }

    private List<Integer> offers() {
        List<Integer> offers = new ArrayList<>();
        for (int t = 0; t < items.size() && offers.size() < 8; t++) {
            Item item = items.get(t);
            if (item.kind <= 4 && item.state == 1 && item.home < 1000) {
                offers.add(t);
            }
        }
        return offers;
    }

    /** May ROLE r have t, after the ROLES before it have theirs? */
    private boolean goesWith(int[] given, int r, int t) {
        for (int q = 0; q < r; q++) {
            int[] one = roles.get(q);
            int[] other = roles.get(r);
            if (one[1] == other[1] && given[q] == t) {
                return false;
            }
            if (one[0] != other[0] || given[q] == t) {
                continue;
            }
            int first = Math.min(one[1], other[1]);
            int last = Math.max(one[1], other[1]);
            boolean isNext = roles.stream().noneMatch(x -> x[0] == one[0] && x[1] > first && x[1] < last);
            int between = Arrays.stream(scenes, first + 1, last).sum();
            if (isNext && between < dressing(one[1] == last ? given[q] : t)) {
                return false;
            }
        }
        return true;
    }

    private void tryAll(List<Integer> offers, int[] given, int r, int sum, int[] fixed, int[] best) {
        if (r == roles.size()) {
            if (sum < bestCost) {
                bestCost = sum;
                System.arraycopy(given, 0, best, 0, r);
            }
            return;
        }
        for (int t : offers) {
            int a = roles.get(r)[0];
            if ((r != fixed[0] || t == fixed[1]) && fit(a, t) == 1 && goesWith(given, r, t)) {
                given[r] = t;
                tryAll(offers, given, r + 1, sum + price(a, t), fixed, best);
            }
        }
    }

    private int[] bestPlan(int fixedRole, int fixedThing) {
        int[] best = new int[roles.size()];
        bestCost = Integer.MAX_VALUE;
        houseLocks++;
        holderLocks += racks.size();
        tryAll(offers(), new int[roles.size()], 0, 0, new int[] {fixedRole, fixedThing}, best);
        return best;
    }

    int plan() {
        int[] best = bestPlan(-1, -1);
        latestPlan = bestCost == Integer.MAX_VALUE ? new int[0] : best;
        return bestCost == Integer.MAX_VALUE ? no(12) : yes(bestCost);
    }

    int dressOf(int r) {
        return r < 0 || r >= latestPlan.length ? no(10) : yes(latestPlan[r]);
    }

    int least(int r, int t) {
        if (r < 0 || r >= roles.size() || !isThing(t)) {
            return no(10);
        }
        bestPlan(r, t);
        return bestCost == Integer.MAX_VALUE ? no(12) : yes(bestCost);
    }

    int hire(int t, int cents) {
        if (!isThing(t)) {
            return no(10);
        }
        if (items.get(t).kind > 5) {
            return no(4);
        }
        if (items.get(t).state != 1) {
            return no(8);
        }
        locked();
        if (cents < 0 || cents > 1000000 || hires.size() == 300) {
            return no(6);
        }
        photograph();
        hires.add(new int[] {t, cents, 1});
        place(t, 2, -1, -1);
        purse += cents;
        return yes(hires.size() - 1);
    }

    int back(int hire, int h, int s, int cents) {
        if (hire < 0 || hire >= hires.size() || hires.get(hire)[2] == 0) {
            return no(10);
        }
        if (slotsOf(h) == 0) {
            return no(1);
        }
        locked();
        int t = hires.get(hire)[0];
        int deposit = hires.get(hire)[1];
        if (s < 0 || s >= slotsOf(h)) {
            return no(2);
        }
        int why = whyNotInto(h, s, t);
        if (why != 0 || cents < 0 || cents > deposit) {
            return no(why != 0 ? why : 6);
        }
        photograph();
        hires.get(hire)[2] = 0;
        place(t, 1, h, s);
        purse += cents - deposit;
        return yes(deposit - cents);
    }

    int purse() {
        return purse;
    }

    int spent() {
        return spent;
    }

    int share(int i, int n) {
        if (n <= 0) {
            return no(n == 0 ? 7 : 6);
        }
        if (i < 0 || i >= n) {
            return no(2);
        }
        return yes((int) (((long) purse + n - 1 - i) / n));
    }

    private int search(int h, int a, int kind) {
        holderLocks++;
        for (int s = 0; s < slotsOf(h); s++) {
            int t = at(h, s);
            if (t < 0) {
                continue;
            }
            int has = items.get(t).kind;
            boolean isKind = has == kind || has == 1 && kind == 0 || has == 2 && kind < 2;
            if (isKind && (a == -1 || fit(a, t) == 1)) {
                return t;
            }
            int found = items.get(t).slots > 0 ? search(1000 + t, a, kind) : -1;
            if (found >= 0) {
                return found;
            }
        }
        return -1;
    }

    int find(int a, int kind) {
        if (a != -1 && !isActor(a)) {
            return no(10);
        }
        if (kind < 0 || kind > 4) {
            return no(6);
        }
        houseLocks++;
        for (int r = 0; r < racks.size(); r++) {
            int found = search(r, a, kind);
            if (found >= 0) {
                return yes(found);
            }
        }
        return no(3);
    }

    private int all(int h) {
        holderLocks++;
        int n = 0;
        for (int t = 0; t < items.size(); t++) {
            if (items.get(t).home == h) {
                n += 1 + (items.get(t).slots > 0 ? all(1000 + t) : 0);
            }
        }
        return n;
    }

    int count(int h) {
        if (slotsOf(h) == 0) {
            return no(1);
        }
        houseLocks++;
        return yes(all(h));
    }

    int undo() {
        if (pictures.isEmpty()) {
            return no(11);
        }
        Picture picture = pictures.pop();
        for (int t = 0; t < picture.items.size(); t++) {
            items.set(t, picture.items.get(t));
        }
        for (int a = 0; a < picture.actors.size(); a++) {
            actors.set(a, picture.actors.get(a));
        }
        for (int n = 0; n < hires.size(); n++) {
            hires.get(n)[2] = n < picture.hires.size() ? picture.hires.get(n)[2] : 0;
        }
        purse = picture.purse;
        spent = picture.spent;
        return yes(1);
    }

    int locks(int what) {
        return what < 0 || what > 2 ? no(6) : yes(what == 0 ? houseLocks : what == 1 ? holderLocks : 0);
    }

    int status() {
        return status;
    }

    int digest() {
        List<Integer> over = new ArrayList<>();
        for (Item item : items) {
            over.addAll(List.of(item.kind, item.state, item.home));
            for (int part = 0; part < 6 && item.kind < 4; part++) {
                over.add(item.parts[0][part]);
            }
        }
        for (int r = 0; r < racks.size(); r++) {
            for (int s = 0; s < racks.get(r); s++) {
                over.add(at(r, s));
            }
        }
        over.addAll(List.of(purse, spent, houseLocks, holderLocks));
        int d = 17;
        for (int n : over) {
            d = d * 31 + n;
        }
        return d;
    }
}
