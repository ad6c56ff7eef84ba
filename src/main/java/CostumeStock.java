/** The wardrobe of a theatre; the words in capitals are those of the document. */
public final class CostumeStock {
    private static final int DRESS = 0;
    private static final int COAT = 1;
    private static final int UNIFORM = 2;
    private static final int MASK = 3;
    private static final int SET = 4;
    private static final int TRUNK = 5;
    private static final int BYTES = 6;
    private static final int FLOATS = 7;
    private static final int CHARS = 8;

    private static final int AT_HAND = 0;
    private static final int IN_SLOT = 1;
    private static final int OUT = 2;

    private static final int DONE = 0;
    private static final int NO_HOLDER = 1;
    private static final int BEYOND = 2;
    private static final int NOTHING_THERE = 3;
    private static final int WRONG_KIND = 4;
    private static final int TAKEN_ALREADY = 5;
    private static final int BAD_NUMBER = 6;
    private static final int NOBODY = 7;
    private static final int WRONG_STATE = 8;
    private static final int TRUNK_IN_TRUNK = 9;
    private static final int NO_SUCH = 10;
    private static final int NO_UNDO = 11;
    private static final int NO_FIT = 12;
    private static final int IS_NONE = 13;

    private static final int MOST_THINGS = 200;
    private static final int MOST_RACKS = 12;
    private static final int MOST_ACTORS = 40;
    private static final int MOST_ROLES = 7;
    private static final int MOST_OFFERS = 8;
    private static final int MOST_HIRES = 300;
    private static final int MOST_CALLS = 512;
    private static final int MOST_RACK_SLOTS = 40;
    private static final int MOST_TRUNK_SLOTS = 20;
    private static final int SET_SLOTS = 6;
    private static final int MOST_VALUES = 40;
    private static final int MOST_TRUNKS_DEEP = 6;
    /** A RACK, six TRUNKS and a SET. */
    private static final int MOST_HOLDERS_DEEP = 8;
    private static final int FIRST_BOX = 1000;
    private static final int PARTS = 6;
    private static final int SCENES = 10;
    private static final int MOST_MINUTES = 90;
    private static final int MOST_SIZE = 255;
    private static final int MOST_REACH = 60;
    private static final int MOST_TENTHS = 3000;
    private static final int MOST_CENTS = 1000000;

    private static final int NONE = -1;
    private static final int ENDLESS = -2;
    private static final int ENDLESS_VALUE = 2147483647;

    private static final int FIT_WRONG = 0;
    private static final int FIT_GOOD = 1;
    private static final int FIT_OPEN = 2;

    private static final int HIRE_OPEN = 0;
    private static final int HIRE_BACK = 1;
    private static final int HIRE_UNDONE = 2;

    private static final int NO_PLAN = 2147483647;

    private final Thing[] things = new Thing[MOST_THINGS];
    private int thingCount;
    private final Holder[] racks = new Holder[MOST_RACKS];
    private int rackCount;
    private final Actor[] actors = new Actor[MOST_ACTORS];
    private int actorCount;
    private final Hire[] hires = new Hire[MOST_HIRES];
    private int hireCount;
    private final Change[] changes = new Change[MOST_CALLS];
    private int changeCount;
    private final Planner planner = new Planner();
    private int purse;
    private int spent;
    private int houseLocks;
    private int holderLocks;
    private int locksNow;
    private int status;

    public CostumeStock() {
        status = DONE;
    }

    // ---- things and holders are made

    public int rack(int n) {
        if (!isWithin(n, 1, MOST_RACK_SLOTS) || rackCount >= MOST_RACKS) {
            return refuse(BAD_NUMBER);
        }
        int number = rackCount;
        racks[number] = new Holder(number, null, n);
        rackCount++;
        return done(number);
    }

    public int wear(int kind) {
        if (!isWithin(kind, DRESS, MASK) || !hasRoomForThing()) {
            return refuse(BAD_NUMBER);
        }
        return addThing(new Garment(thingCount, kind));
    }

    public int set() {
        return addBox(SET, SET_SLOTS, SET_SLOTS);
    }

    public int trunk(int n) {
        return addBox(TRUNK, n, MOST_TRUNK_SLOTS);
    }

    public int row(int kind, int n) {
        if (!isWithin(kind, BYTES, CHARS) || !isWithin(n, 0, MOST_VALUES) || !hasRoomForThing()) {
            return refuse(BAD_NUMBER);
        }
        return addThing(new Row(thingCount, kind, n));
    }

    // ---- rows

    public int write(int t, int i, int v) {
        Row row = rowFor(t, i);
        if (row == null) {
            return -1;
        }
        if (row.kind == FLOATS && !isTenths(v)) {
            return refuse(BAD_NUMBER);
        }
        row.values[i] = row.kept(v);
        return done(1);
    }

    public int value(int t, int i) {
        Row row = rowFor(t, i);
        if (row == null) {
            return -1;
        }
        int v = row.values[i];
        if (row.kind != FLOATS) {
            return done(v);
        }
        if (v == NONE) {
            return refuse(IS_NONE);
        }
        return done(v == ENDLESS ? ENDLESS_VALUE : v / 10);
    }

    // ---- where a thing is

    public int kind(int t) {
        Thing thing = thingAt(t);
        return thing == null ? refuse(NO_SUCH) : done(thing.kind);
    }

    public int state(int t) {
        Thing thing = thingAt(t);
        return thing == null ? refuse(NO_SUCH) : done(thing.state);
    }

    public int holder(int t) {
        Thing thing = thingAt(t);
        if (thing == null) {
            return refuse(NO_SUCH);
        }
        return thing.home == null ? refuse(WRONG_STATE) : done(thing.home.number);
    }

    public int put(int h, int s, int t) {
        Holder into = holderAt(h);
        if (into == null) {
            return refuse(NO_HOLDER);
        }
        Thing thing = thingAt(t);
        if (thing == null) {
            return refuse(NO_SUCH);
        }
        enterBoth();
        int answer = putLocked(into, s, thing);
        leaveBoth();
        return answer;
    }

    public int take(int h, int s) {
        Holder from = holderAt(h);
        if (from == null) {
            return refuse(NO_HOLDER);
        }
        enterBoth();
        int answer = takeLocked(from, s);
        leaveBoth();
        return answer;
    }

    public int inside(int h, int s) {
        Holder where = holderAt(h);
        if (where == null) {
            return refuse(NO_HOLDER);
        }
        enterBoth();
        int answer = insideLocked(where, s);
        leaveBoth();
        return answer;
    }

    // ---- sizes

    public int size(int t, int part, int n) {
        Garment garment = garmentFor(t, part);
        if (garment == null) {
            return -1;
        }
        if (!isWithin(n, 0, MOST_SIZE)) {
            return refuse(BAD_NUMBER);
        }
        int before = garment.sizes[part];
        remember(new Resize(garment, part, spent));
        garment.sizes[part] = n;
        return done(before);
    }

    public int reach(int t, int part, int in, int out) {
        Garment garment = garmentFor(t, part);
        if (garment == null) {
            return -1;
        }
        if (!isWithin(in, 0, MOST_REACH) || !isWithin(out, 0, MOST_REACH)) {
            return refuse(BAD_NUMBER);
        }
        remember(new Resize(garment, part, spent));
        garment.ins[part] = in;
        garment.outs[part] = out;
        return done(1);
    }

    public int alter(int t, int part, int steps) {
        Garment garment = garmentFor(t, part);
        if (garment == null) {
            return -1;
        }
        if (garment.sizes[part] == 0) {
            return refuse(NO_FIT);
        }
        if (!garment.canAlter(part, steps)) {
            return refuse(BAD_NUMBER);
        }
        remember(new Resize(garment, part, spent));
        garment.sizes[part] += steps;
        garment.ins[part] += steps;
        garment.outs[part] -= steps;
        int price = priceOfSteps(garment.kind, Math.abs(steps));
        spent += price;
        return done(price);
    }

    public int sizeOf(int t, int part, int what) {
        Garment garment = garmentFor(t, part);
        if (garment == null) {
            return -1;
        }
        if (!isWithin(what, 0, 2)) {
            return refuse(BAD_NUMBER);
        }
        switch (what) {
            case 0: return done(garment.sizes[part]);
            case 1: return done(garment.ins[part]);
            default: return done(garment.outs[part]);
        }
    }

    // ---- actors and fittings

    public int actor() {
        if (actorCount >= MOST_ACTORS) {
            return refuse(BAD_NUMBER);
        }
        int number = actorCount;
        actors[number] = new Actor();
        actorCount++;
        return done(number);
    }

    public int measure(int a, int part, int v) {
        Actor actor = actorAt(a);
        if (actor == null) {
            return refuse(NO_SUCH);
        }
        if (!isPart(part)) {
            return refuse(BEYOND);
        }
        if (!isTenths(v)) {
            return refuse(BAD_NUMBER);
        }
        remember(new Remeasure(actor, part));
        actor.measures[part] = v;
        return done(1);
    }

    public int fits(int a, int t) {
        Actor actor = actorAt(a);
        Thing thing = thingAt(t);
        if (actor == null || thing == null) {
            return refuse(NO_SUCH);
        }
        return thing.isWear() ? done(fitOf(actor, thing)) : refuse(WRONG_KIND);
    }

    public int cost(int a, int t) {
        Actor actor = actorAt(a);
        Thing thing = thingAt(t);
        if (actor == null || thing == null) {
            return refuse(NO_SUCH);
        }
        if (!thing.isWear()) {
            return refuse(WRONG_KIND);
        }
        return fitOf(actor, thing) == FIT_GOOD ? done(costOf(actor, thing)) : refuse(NO_FIT);
    }

    public int minutes(int t) {
        Thing thing = thingAt(t);
        if (thing == null) {
            return refuse(NO_SUCH);
        }
        return thing.isWear() ? done(minutesOf(thing)) : refuse(WRONG_KIND);
    }

    public int wash(int t) {
        Thing thing = thingAt(t);
        if (thing == null) {
            return refuse(NO_SUCH);
        }
        if (!thing.isWear() || thing.kind == MASK) {
            return refuse(WRONG_KIND);
        }
        return done(thing.kind == SET ? daysOfSet(thing) : daysOfKind(thing.kind));
    }

    // ---- roles and plans

    public int role(int a, int scene) {
        Actor actor = actorAt(a);
        if (actor == null) {
            return refuse(NO_SUCH);
        }
        if (!isScene(scene) || !planner.hasRoom()) {
            return refuse(BAD_NUMBER);
        }
        if (planner.hasRole(actor, scene)) {
            return refuse(TAKEN_ALREADY);
        }
        return done(planner.addRole(actor, scene));
    }

    public int clear() {
        int before = planner.roleCount;
        planner.roleCount = 0;
        return before;
    }

    public int scene(int scene, int minutes) {
        if (!isScene(scene) || !isWithin(minutes, 0, MOST_MINUTES)) {
            return refuse(BAD_NUMBER);
        }
        int before = planner.lengths[scene];
        planner.lengths[scene] = minutes;
        return done(before);
    }

    public int plan() {
        enterRacks();
        planner.gather(things, thingCount);
        int cost = planner.solve(-1, null);
        planner.keepAnswer(cost);
        leaveRacks();
        return cost == NO_PLAN ? refuse(NO_FIT) : done(cost);
    }

    public int dressOf(int r) {
        if (r < 0 || r >= planner.givenCount) {
            return refuse(NO_SUCH);
        }
        return done(planner.given[r]);
    }

    public int least(int r, int t) {
        Thing thing = thingAt(t);
        if (r < 0 || r >= planner.roleCount || thing == null) {
            return refuse(NO_SUCH);
        }
        enterRacks();
        planner.gather(things, thingCount);
        int cost = planner.solve(r, thing);
        leaveRacks();
        return cost == NO_PLAN ? refuse(NO_FIT) : done(cost);
    }

    // ---- hires and money

    public int hire(int t, int cents) {
        Thing thing = thingAt(t);
        if (thing == null) {
            return refuse(NO_SUCH);
        }
        if (thing.kind > TRUNK) {
            return refuse(WRONG_KIND);
        }
        if (thing.state != IN_SLOT) {
            return refuse(WRONG_STATE);
        }
        enterBoth();
        int answer = hireLocked(thing, cents);
        leaveBoth();
        return answer;
    }

    public int back(int hire, int h, int s, int cents) {
        Hire open = openHireAt(hire);
        if (open == null) {
            return refuse(NO_SUCH);
        }
        Holder into = holderAt(h);
        if (into == null) {
            return refuse(NO_HOLDER);
        }
        enterBoth();
        int answer = backLocked(open, into, s, cents);
        leaveBoth();
        return answer;
    }

    public int purse() {
        return purse;
    }

    public int spent() {
        return spent;
    }

    public int share(int i, int n) {
        if (n == 0) {
            return refuse(NOBODY);
        }
        if (n < 0) {
            return refuse(BAD_NUMBER);
        }
        if (i < 0 || i >= n) {
            return refuse(BEYOND);
        }
        return done(purse / n + (i < purse % n ? 1 : 0));
    }

    // ---- the whole house

    public int find(int a, int kind) {
        Actor actor = actorAt(a);
        if (actor == null && a != -1) {
            return refuse(NO_SUCH);
        }
        if (!isWithin(kind, DRESS, SET)) {
            return refuse(BAD_NUMBER);
        }
        enterHouse();
        Thing found = null;
        for (int r = 0; r < rackCount && found == null; r++) {
            found = firstIn(racks[r], actor, kind, 1);
        }
        leaveLock();
        return found == null ? refuse(NOTHING_THERE) : done(found.number);
    }

    public int count(int h) {
        Holder where = holderAt(h);
        if (where == null) {
            return refuse(NO_HOLDER);
        }
        enterHouse();
        int number = countIn(where, 1);
        leaveLock();
        return done(number);
    }

    public int undo() {
        if (changeCount < 1) {
            return refuse(NO_UNDO);
        }
        changeCount--;
        Change latest = changes[changeCount];
        if (latest != null) {
            latest.revert(this);
        }
        return done(1);
    }

    public int locks(int what) {
        switch (what) {
            case 0: return done(houseLocks);
            case 1: return done(holderLocks);
            case 2: return done(locksNow);
            default: return refuse(BAD_NUMBER);
        }
    }

    public int status() {
        return status;
    }

    public int digest() {
        int d = 17;
        for (int t = 0; t < thingCount; t++) {
            d = digestThing(d, things[t]);
        }
        for (int r = 0; r < rackCount; r++) {
            d = digestRack(d, racks[r]);
        }
        d = d * 31 + purse;
        d = d * 31 + spent;
        d = d * 31 + houseLocks;
        return d * 31 + holderLocks;
    }

    // ---- answers

    private int refuse(int why) {
        status = why;
        return -1;
    }

    private int done(int answer) {
        status = DONE;
        return answer;
    }

    // ---- looking things up: null where there is none

    private Thing thingAt(int t) {
        return t >= 0 && t < thingCount ? things[t] : null;
    }

    private Holder holderAt(int h) {
        if (h >= FIRST_BOX) {
            Thing box = thingAt(h - FIRST_BOX);
            return box == null ? null : box.inner;
        }
        return h >= 0 && h < rackCount ? racks[h] : null;
    }

    private Actor actorAt(int a) {
        return a >= 0 && a < actorCount ? actors[a] : null;
    }

    private Hire openHireAt(int number) {
        Hire hire = number >= 0 && number < hireCount ? hires[number] : null;
        return hire != null && hire.stage == HIRE_OPEN ? hire : null;
    }

    // ---- looking up with the refusals on the way: null where it is refused, and the STATUS says why

    private Row rowFor(int t, int i) {
        Thing thing = thingAt(t);
        if (thing == null) {
            refuse(NO_SUCH);
            return null;
        }
        if (thing instanceof Row row) {
            if (row.hasPlace(i)) {
                return row;
            }
            refuse(BEYOND);
            return null;
        }
        refuse(WRONG_KIND);
        return null;
    }

    private Garment garmentFor(int t, int part) {
        Thing thing = thingAt(t);
        if (thing == null) {
            refuse(NO_SUCH);
            return null;
        }
        if (thing instanceof Garment garment) {
            if (isPart(part)) {
                return garment;
            }
            refuse(BEYOND);
            return null;
        }
        refuse(WRONG_KIND);
        return null;
    }

    // ---- numbers

    private static boolean isWithin(int n, int least, int most) {
        return n >= least && n <= most;
    }

    private static boolean isPart(int part) {
        return isWithin(part, 0, PARTS - 1);
    }

    private static boolean isScene(int scene) {
        return isWithin(scene, 0, SCENES - 1);
    }

    private static boolean isTenths(int v) {
        return isWithin(v, ENDLESS, MOST_TENTHS);
    }

    // ---- making things

    private boolean hasRoomForThing() {
        return thingCount < MOST_THINGS;
    }

    private int addThing(Thing thing) {
        things[thingCount] = thing;
        thingCount++;
        return done(thing.number);
    }

    private int addBox(int kind, int n, int most) {
        if (!isWithin(n, 1, most) || !hasRoomForThing()) {
            return refuse(BAD_NUMBER);
        }
        Thing box = new Thing(thingCount, kind);
        box.inner = new Holder(FIRST_BOX + box.number, box, n);
        return addThing(box);
    }

    // ---- locks

    private void enterHouse() {
        houseLocks++;
        locksNow++;
    }

    private void enterHolder() {
        holderLocks++;
        locksNow++;
    }

    private void leaveLock() {
        locksNow--;
    }

    private void enterBoth() {
        enterHouse();
        enterHolder();
    }

    private void leaveBoth() {
        leaveLock();
        leaveLock();
    }

    private void enterRacks() {
        enterHouse();
        for (int r = 0; r < rackCount; r++) {
            enterHolder();
        }
    }

    private void leaveRacks() {
        for (int r = 0; r < rackCount; r++) {
            leaveLock();
        }
        leaveLock();
    }

    // ---- moving things

    private int putLocked(Holder into, int s, Thing thing) {
        if (!into.hasSlot(s)) {
            return refuse(BEYOND);
        }
        if (thing.state != AT_HAND) {
            return refuse(WRONG_STATE);
        }
        int why = whyNotInto(into, s, thing);
        if (why != DONE) {
            return refuse(why);
        }
        remember(new Move(thing, purse, null, HIRE_OPEN));
        thing.moveTo(IN_SLOT, into, s);
        return done(1);
    }

    private int takeLocked(Holder from, int s) {
        if (!from.hasSlot(s)) {
            return refuse(BEYOND);
        }
        Thing thing = from.slots[s];
        if (thing == null) {
            return refuse(NOTHING_THERE);
        }
        remember(new Move(thing, purse, null, HIRE_OPEN));
        thing.moveTo(AT_HAND, null, 0);
        return done(thing.number);
    }

    private int insideLocked(Holder where, int s) {
        if (!where.hasSlot(s)) {
            return refuse(BEYOND);
        }
        Thing thing = where.slots[s];
        return thing == null ? refuse(NOTHING_THERE) : done(thing.number);
    }

    private int hireLocked(Thing thing, int cents) {
        if (!isWithin(cents, 0, MOST_CENTS) || hireCount >= MOST_HIRES) {
            return refuse(BAD_NUMBER);
        }
        int number = hireCount;
        Hire hire = new Hire(thing, cents);
        hires[number] = hire;
        hireCount++;
        remember(new Move(thing, purse, hire, HIRE_UNDONE));
        thing.moveTo(OUT, null, 0);
        purse += cents;
        return done(number);
    }

    private int backLocked(Hire hire, Holder into, int s, int cents) {
        if (!into.hasSlot(s)) {
            return refuse(BEYOND);
        }
        int why = whyNotInto(into, s, hire.thing);
        if (why != DONE) {
            return refuse(why);
        }
        if (!isWithin(cents, 0, hire.deposit)) {
            return refuse(BAD_NUMBER);
        }
        remember(new Move(hire.thing, purse, hire, HIRE_OPEN));
        hire.stage = HIRE_BACK;
        hire.thing.moveTo(IN_SLOT, into, s);
        int gone = hire.deposit - cents;
        purse -= gone;
        return done(gone);
    }

    private static int whyNotInto(Holder into, int s, Thing thing) {
        if (!into.hasSlot(s) || into.slots[s] != null) {
            return TAKEN_ALREADY;
        }
        if (into.isSet() && thing.kind > MASK) {
            return WRONG_KIND;
        }
        boolean tooDeep = trunksUp(into) + trunksDown(thing, 1) > MOST_TRUNKS_DEEP;
        return tooDeep || isWayUpThrough(into, thing) ? TRUNK_IN_TRUNK : DONE;
    }

    private static int trunksUp(Holder from) {
        int number = 0;
        Holder at = from;
        for (int k = 0; k < MOST_HOLDERS_DEEP && at != null; k++) {
            if (at.isTrunk()) {
                number++;
            }
            at = at.above();
        }
        return number;
    }

    private static int trunksDown(Thing thing, int depth) {
        if (thing == null || thing.kind != TRUNK || thing.inner == null || depth > MOST_TRUNKS_DEEP) {
            return 0;
        }
        int deepest = 0;
        for (int s = 0; s < thing.inner.slots.length; s++) {
            deepest = Math.max(deepest, trunksDown(thing.inner.slots[s], depth + 1));
        }
        return deepest + 1;
    }

    private static boolean isWayUpThrough(Holder from, Thing thing) {
        Holder at = from;
        for (int k = 0; k < MOST_HOLDERS_DEEP && at != null; k++) {
            if (at.owner == thing) {
                return true;
            }
            at = at.above();
        }
        return false;
    }

    private void remember(Change change) {
        // Only calls beyond the document's 512 can find it full: what is done then is free.
        if (changeCount >= MOST_CALLS) {
            changeCount = 0;
        }
        changes[changeCount] = change;
        changeCount++;
    }

    // ---- fittings

    private static int fitOf(Actor actor, Thing thing) {
        if (thing instanceof Garment garment) {
            return fitOfGarment(actor, garment);
        }
        if (thing.inner == null) {
            return FIT_OPEN;
        }
        int fit = FIT_GOOD;
        boolean isEmpty = true;
        for (int s = 0; s < thing.inner.slots.length; s++) {
            if (thing.inner.slots[s] instanceof Garment garment) {
                isEmpty = false;
                fit = bothFits(fit, fitOfGarment(actor, garment));
            }
        }
        return isEmpty ? FIT_OPEN : fit;
    }

    private static int fitOfGarment(Actor actor, Garment garment) {
        int fit = FIT_GOOD;
        for (int part = 0; part < PARTS; part++) {
            if (needs(garment.kind, part)) {
                fit = bothFits(fit, fitOfPart(actor, garment, part));
            }
        }
        return fit;
    }

    private static int fitOfPart(Actor actor, Garment garment, int part) {
        int measure = actor.measures[part];
        int size = garment.sizes[part];
        if (measure == ENDLESS) {
            return FIT_WRONG;
        }
        if (size == 0 || measure == NONE) {
            return FIT_OPEN;
        }
        int wanted = halvesOf(measure);
        boolean isWrong = wanted < size - garment.ins[part] || wanted > size + garment.outs[part];
        return isWrong ? FIT_WRONG : FIT_GOOD;
    }

    private static int bothFits(int one, int other) {
        if (one == FIT_WRONG || other == FIT_WRONG) {
            return FIT_WRONG;
        }
        return one == FIT_OPEN || other == FIT_OPEN ? FIT_OPEN : FIT_GOOD;
    }

    private static int halvesOf(int tenths) {
        return (tenths + 4) / 5;
    }

    private static boolean needs(int kind, int part) {
        switch (kind) {
            case DRESS: return part == 1 || part == 2 || part == 3 || part == 5;
            case COAT: return part == 1 || part == 2 || part == 4;
            case UNIFORM: return part == 1 || part == 2 || part == 4 || part == 5;
            default: return part == 0;
        }
    }

    private static int costOf(Actor actor, Thing thing) {
        if (thing instanceof Garment garment) {
            return costOfGarment(actor, garment);
        }
        int sum = 0;
        if (thing.inner != null) {
            for (int s = 0; s < thing.inner.slots.length; s++) {
                if (thing.inner.slots[s] instanceof Garment garment) {
                    sum += costOfGarment(actor, garment);
                }
            }
        }
        return sum;
    }

    private static int costOfGarment(Actor actor, Garment garment) {
        int steps = 0;
        for (int part = 0; part < PARTS; part++) {
            if (needs(garment.kind, part)) {
                steps += Math.abs(halvesOf(actor.measures[part]) - garment.sizes[part]);
            }
        }
        return priceOfSteps(garment.kind, steps);
    }

    private static int priceOfSteps(int kind, int steps) {
        if (steps == 0) {
            return 0;
        }
        switch (kind) {
            case DRESS: return 2 * steps;
            case COAT: return 2 * steps + 4;
            case UNIFORM: return 3 * steps + 4;
            default: return 5 * steps;
        }
    }

    private static int minutesOf(Thing thing) {
        if (thing.inner == null) {
            return minutesOfKind(thing.kind);
        }
        int sum = 0;
        for (int s = 0; s < thing.inner.slots.length; s++) {
            Thing part = thing.inner.slots[s];
            if (part != null) {
                sum += minutesOfKind(part.kind);
            }
        }
        return sum;
    }

    private static int minutesOfKind(int kind) {
        switch (kind) {
            case COAT: return 1;
            case UNIFORM: return 6;
            default: return 3;
        }
    }

    private static int daysOfSet(Thing set) {
        int most = 0;
        if (set.inner != null) {
            for (int s = 0; s < set.inner.slots.length; s++) {
                Thing part = set.inner.slots[s];
                if (part != null && part.kind != MASK) {
                    most = Math.max(most, daysOfKind(part.kind));
                }
            }
        }
        return most + 1;
    }

    private static int daysOfKind(int kind) {
        switch (kind) {
            case COAT: return 5;
            case UNIFORM: return 6;
            default: return 2;
        }
    }

    // ---- looking through holders

    private Thing firstIn(Holder where, Actor actor, int kind, int depth) {
        if (where == null || depth > MOST_HOLDERS_DEEP) {
            return null;
        }
        enterHolder();
        Thing found = null;
        for (int s = 0; s < where.slots.length && found == null; s++) {
            Thing thing = where.slots[s];
            if (thing != null) {
                boolean isIt = thing.isOf(kind) && (actor == null || fitOf(actor, thing) == FIT_GOOD);
                found = isIt ? thing : firstIn(thing.inner, actor, kind, depth + 1);
            }
        }
        leaveLock();
        return found;
    }

    private int countIn(Holder where, int depth) {
        if (where == null || depth > MOST_HOLDERS_DEEP) {
            return 0;
        }
        enterHolder();
        int number = 0;
        for (int s = 0; s < where.slots.length; s++) {
            Thing thing = where.slots[s];
            if (thing != null) {
                number += 1 + countIn(thing.inner, depth + 1);
            }
        }
        leaveLock();
        return number;
    }

    private static int digestThing(int before, Thing thing) {
        if (thing == null) {
            return before;
        }
        int d = before;
        d = d * 31 + thing.kind;
        d = d * 31 + thing.state;
        d = d * 31 + (thing.home == null ? -1 : thing.home.number);
        if (thing instanceof Garment garment) {
            for (int part = 0; part < PARTS; part++) {
                d = d * 31 + garment.sizes[part];
            }
        }
        return d;
    }

    private static int digestRack(int before, Holder rack) {
        if (rack == null) {
            return before;
        }
        int d = before;
        for (int s = 0; s < rack.slots.length; s++) {
            Thing thing = rack.slots[s];
            d = d * 31 + (thing == null ? -1 : thing.number);
        }
        return d;
    }

    // ---- classes

    /** SETS and TRUNKS are plain THINGS with a HOLDER inside. */
    private static class Thing {
        final int number;
        final int kind;
        int state;
        Holder home;
        int slot;
        Holder inner;

        Thing(int number, int kind) {
            this.number = number;
            this.kind = kind;
            this.state = AT_HAND;
        }

        final boolean isWear() {
            return kind <= SET;
        }

        /** A COAT is a DRESS, a UNIFORM is both. */
        final boolean isOf(int wanted) {
            return kind == wanted || kind <= UNIFORM && wanted <= kind;
        }

        final boolean isOnRack() {
            return home != null && home.owner == null;
        }

        final void moveTo(int newState, Holder newHome, int newSlot) {
            if (home != null) {
                home.lay(slot, null);
            }
            state = newState;
            home = newHome;
            slot = newSlot;
            if (newHome != null) {
                newHome.lay(newSlot, this);
            }
        }
    }

    /** WEAR of KIND 0 to 3. */
    private static final class Garment extends Thing {
        final int[] sizes = new int[PARTS];
        final int[] ins = new int[PARTS];
        final int[] outs = new int[PARTS];

        Garment(int number, int kind) {
            super(number, kind);
        }

        boolean canAlter(int part, int steps) {
            // A SIZE that wraps around comes out below 1, so the sums behind it do not wrap.
            return isWithin(sizes[part] + steps, 1, MOST_SIZE)
                && isWithin(ins[part] + steps, 0, MOST_SIZE)
                && isWithin(outs[part] - steps, 0, MOST_SIZE);
        }
    }

    private static final class Row extends Thing {
        final int[] values;

        Row(int number, int kind, int n) {
            super(number, kind);
            this.values = new int[n];
        }

        boolean hasPlace(int i) {
            return i >= 0 && i < values.length;
        }

        /** FLOATS are kept in tenths, with NONE and ENDLESS as they are told. */
        int kept(int v) {
            switch (kind) {
                case BYTES: return v & 255;
                case CHARS: return v & 65535;
                default: return v;
            }
        }
    }

    /** A RACK has no owner; the SLOTS of a SET or TRUNK are their THING's. */
    private static final class Holder {
        final int number;
        final Thing owner;
        final Thing[] slots;

        Holder(int number, Thing owner, int n) {
            this.number = number;
            this.owner = owner;
            this.slots = new Thing[n];
        }

        boolean hasSlot(int s) {
            return s >= 0 && s < slots.length;
        }

        void lay(int s, Thing thing) {
            if (hasSlot(s)) {
                slots[s] = thing;
            }
        }

        boolean isSet() {
            return owner != null && owner.kind == SET;
        }

        boolean isTrunk() {
            return owner != null && owner.kind == TRUNK;
        }

        Holder above() {
            return owner == null ? null : owner.home;
        }
    }

    private static final class Actor {
        final int[] measures = {NONE, NONE, NONE, NONE, NONE, NONE};
    }

    private static final class Hire {
        final Thing thing;
        final int deposit;
        int stage;

        Hire(Thing thing, int deposit) {
            this.thing = thing;
            this.deposit = deposit;
            this.stage = HIRE_OPEN;
        }
    }

    /** What was before a call, for undo() to set it again. */
    private abstract static class Change {
        abstract void revert(CostumeStock stock);
    }

    /** Of put() and take(), without a HIRE; of hire() and back(), with the stage at which undo() leaves it. */
    private static final class Move extends Change {
        final Thing thing;
        final int state;
        final Holder home;
        final int slot;
        final int purse;
        final Hire hire;
        final int stage;

        Move(Thing thing, int purse, Hire hire, int stage) {
            this.thing = thing;
            this.state = thing.state;
            this.home = thing.home;
            this.slot = thing.slot;
            this.purse = purse;
            this.hire = hire;
            this.stage = stage;
        }

        void revert(CostumeStock stock) {
            thing.moveTo(state, home, slot);
            stock.purse = purse;
            if (hire != null) {
                hire.stage = stage;
            }
        }
    }

    private static final class Resize extends Change {
        final Garment garment;
        final int part;
        final int size;
        final int in;
        final int out;
        final int spent;

        Resize(Garment garment, int part, int spent) {
            this.garment = garment;
            this.part = part;
            this.size = garment.sizes[part];
            this.in = garment.ins[part];
            this.out = garment.outs[part];
            this.spent = spent;
        }

        void revert(CostumeStock stock) {
            garment.sizes[part] = size;
            garment.ins[part] = in;
            garment.outs[part] = out;
            stock.spent = spent;
        }
    }

    private static final class Remeasure extends Change {
        final Actor actor;
        final int part;
        final int before;

        Remeasure(Actor actor, int part) {
            this.actor = actor;
            this.part = part;
            this.before = actor.measures[part];
        }

        void revert(CostumeStock stock) {
            actor.measures[part] = before;
        }
    }

    /** The ROLES, and the search for the PLAN of least cost. */
    private static final class Planner {
        final Actor[] actors = new Actor[MOST_ROLES];
        final int[] scenes = new int[MOST_ROLES];
        int roleCount;
        final int[] lengths = new int[SCENES];
        final Thing[] offers = new Thing[MOST_OFFERS];
        int offerCount;
        final int[] dressing = new int[MOST_OFFERS];
        final int[][] costs = new int[MOST_ROLES][MOST_OFFERS];
        final int[][] cheap = new int[MOST_ROLES][MOST_OFFERS];
        final int[] cheapCount = new int[MOST_ROLES];
        final int[][] gaps = new int[MOST_ROLES][MOST_ROLES];
        final int[] groups = new int[MOST_ROLES];
        final int[] order = new int[MOST_ROLES];
        final int[] rest = new int[MOST_ROLES + 1];
        final int[] trial = new int[MOST_ROLES];
        int bestCost;
        final int[] given = new int[MOST_ROLES];
        int givenCount;

        boolean hasRoom() {
            return roleCount < MOST_ROLES;
        }

        boolean hasRole(Actor actor, int scene) {
            for (int r = 0; r < roleCount; r++) {
                if (actors[r] == actor && scenes[r] == scene) {
                    return true;
                }
            }
            return false;
        }

        int addRole(Actor actor, int scene) {
            int number = roleCount;
            actors[number] = actor;
            scenes[number] = scene;
            roleCount++;
            return number;
        }

        /** The first WEAR, by numbers, that is in a SLOT of a RACK itself. */
        void gather(Thing[] things, int thingCount) {
            offerCount = 0;
            for (int t = 0; t < thingCount && offerCount < MOST_OFFERS; t++) {
                Thing thing = things[t];
                if (thing != null && thing.isWear() && thing.isOnRack()) {
                    offers[offerCount] = thing;
                    dressing[offerCount] = minutesOf(thing);
                    offerCount++;
                }
            }
        }

        /** The least cost, of PLANS that give one ROLE one THING if that is not null; or NO_PLAN. */
        int solve(int fixedRole, Thing fixedThing) {
            for (int r = 0; r < roleCount; r++) {
                fillCosts(r, r == fixedRole ? fixedThing : null);
                fillGaps(r);
            }
            fillOrder();
            // What the later ROLES cost at least, by themselves, cuts the search of all from the one before.
            rest[roleCount] = 0;
            for (int from = roleCount - 1; from >= 0; from--) {
                bestCost = NO_PLAN;
                seekCheapest(from, from, 0);
                rest[from] = bestCost;
                if (bestCost == NO_PLAN) {
                    return NO_PLAN;
                }
            }
            return rest[0];
        }

        /** After solve(): of the PLANS of this cost that with the least THINGS becomes the one that is given. */
        void keepAnswer(int cost) {
            givenCount = 0;
            if (cost == NO_PLAN || !assign(0, cost)) {
                return;
            }
            givenCount = roleCount;
            for (int at = 0; at < roleCount; at++) {
                Thing thing = offers[trial[at]];
                given[order[at]] = thing == null ? -1 : thing.number;
            }
        }

        private void fillCosts(int r, Thing only) {
            Actor actor = actors[r];
            cheapCount[r] = 0;
            for (int c = 0; c < offerCount; c++) {
                Thing thing = offers[c];
                boolean isAllowed = actor != null && thing != null && (only == null || thing == only);
                boolean isGood = isAllowed && fitOf(actor, thing) == FIT_GOOD;
                costs[r][c] = isGood ? costOf(actor, thing) : -1;
                if (isGood) {
                    insertCheap(r, c);
                }
            }
        }

        private void insertCheap(int r, int c) {
            int k = cheapCount[r];
            while (k > 0 && costs[r][cheap[r][k - 1]] > costs[r][c]) {
                cheap[r][k] = cheap[r][k - 1];
                k--;
            }
            cheap[r][k] = c;
            cheapCount[r]++;
        }

        /** The minutes between two ROLES of one ACTOR that has none between them; else -1. */
        private void fillGaps(int r) {
            for (int q = 0; q < roleCount; q++) {
                int first = Math.min(scenes[r], scenes[q]);
                int last = Math.max(scenes[r], scenes[q]);
                boolean isNext = actors[r] == actors[q] && first < last && !hasRoleBetween(actors[r], first, last);
                gaps[r][q] = isNext ? minutesBetween(first, last) : -1;
            }
        }

        private boolean hasRoleBetween(Actor actor, int first, int last) {
            for (int r = 0; r < roleCount; r++) {
                if (actors[r] == actor && scenes[r] > first && scenes[r] < last) {
                    return true;
                }
            }
            return false;
        }

        private int minutesBetween(int first, int last) {
            int sum = 0;
            for (int scene = first + 1; scene < last && scene < SCENES; scene++) {
                sum += lengths[scene];
            }
            return sum;
        }

        /**
         * ROLES that hinder one another, straight or by others, stand together in the order, so that
         * the search need not try all of one group for each way of another. Groups are free of one
         * another, and within a group the order is that of the numbers: so the PLAN is the same.
         */
        private void fillOrder() {
            for (int r = 0; r < roleCount; r++) {
                groups[r] = r;
            }
            for (int r = 0; r < roleCount; r++) {
                for (int q = 0; q < r; q++) {
                    if (scenes[r] == scenes[q] || gaps[r][q] >= 0) {
                        joinGroups(groups[r], groups[q]);
                    }
                }
            }
            int placed = 0;
            for (int group = 0; group < roleCount; group++) {
                for (int r = 0; r < roleCount; r++) {
                    if (groups[r] == group && placed < roleCount) {
                        order[placed] = r;
                        placed++;
                    }
                }
            }
        }

        private void joinGroups(int one, int other) {
            for (int r = 0; r < roleCount; r++) {
                if (groups[r] == one) {
                    groups[r] = other;
                }
            }
        }

        private void seekCheapest(int from, int at, int cost) {
            if (at >= roleCount) {
                bestCost = cost;
                return;
            }
            int r = order[at];
            for (int k = 0; k < cheapCount[r]; k++) {
                int c = cheap[r][k];
                int sum = cost + costs[r][c];
                if (sum + rest[at + 1] >= bestCost) {
                    return;
                }
                if (!clashes(from, at, c)) {
                    trial[at] = c;
                    seekCheapest(from, at + 1, sum);
                }
            }
        }

        private boolean assign(int at, int costLeft) {
            if (at >= roleCount) {
                return true;
            }
            int r = order[at];
            for (int c = 0; c < offerCount; c++) {
                int left = costLeft - costs[r][c];
                if (costs[r][c] >= 0 && left >= rest[at + 1] && !clashes(0, at, c)) {
                    trial[at] = c;
                    if (assign(at + 1, left)) {
                        return true;
                    }
                }
            }
            return false;
        }

        private boolean clashes(int from, int at, int c) {
            for (int k = from; k < at; k++) {
                if (isClash(order[at], c, order[k], trial[k])) {
                    return true;
                }
            }
            return false;
        }

        private boolean isClash(int r, int c, int q, int d) {
            if (scenes[r] == scenes[q]) {
                return c == d;
            }
            int gap = gaps[r][q];
            if (gap < 0 || c == d) {
                return false;
            }
            return gap < dressing[scenes[r] > scenes[q] ? c : d];
        }
    }
}
