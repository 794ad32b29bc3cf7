import java.util.Arrays;

/**
 * A shunting yard. The words in capitals are those of the document (../shared/DOC.md).
 *
 * <p>What may end in a FINDING is worked by private methods that answer FOUND through the report;
 * what only looks for a FINDING answers its kind, or FINE.
 */
public final class SwitchYard {
    public static final int BAD = -1, FOUND = -2, FULL = -3, NONE = -4;

    private static final int FINE = 0, NOTHING = 1, NOT_SUCH = 2, BEYOND = 3, STORE = 4, SIZE = 5, ZERO = 6,
            NONE_HELD = 7, HELD = 8, TAKEN = 9, CLOSED = 10, LOCKED = 11, UNDER = 12, BARRED = 13, COUPLED = 14,
            WEAK = 15, RUNS = 16, UNTESTED = 17;

    private static final int FLAT = 0, TANK = 1, COLD = 2, LONG = 3, EMPTY = 4, ENGINE = 5, SLUG = 6;

    /** What a THING may be WANTED AS: a bit for each KIND that will do. */
    private static final int AS_ANY = 127, AS_WAGON = 31, AS_FLAT = 15, AS_TANK = 6, AS_COLD = 4, AS_ENGINE = 96;

    private static final int ACT_DANGER = 0, ACT_HOLD = 1, ACT_JAM = 2, ACT_TURN = 3, ACT_LOCK = 4, ACT_FREE = 5,
            ACT_COUPLE = 6, ACT_PART = 7, ACT_PULL = 8, ACT_KICK = 9, ACT_STEP = 10, ACT_TEST = 11, ACT_LEAVE = 12;

    private static final int ROW_PLACES = 8, TABLE_NUMBERS = 8, DANGERS = 10;

    private final Report report = new Report();
    private final State state = new State();
    private final History history = new History();
    private final Stock stock = new Stock();
    private final Layout layout = new Layout(state);
    private final Routes routes = new Routes(state, layout, report);
    private final Trains trains = new Trains(state, layout, report);
    private final Bodies bodies = new Bodies(state, stock, report);
    private final Plans plans = new Plans();
    private final int[] table = new int[TABLE_NUMBERS];
    private final int[] row = new int[ROW_PLACES];

    public SwitchYard() {
        Arrays.fill(row, NONE);
    }

    // ---- making

    public int track(int n) {
        if (n == 0 || n > Layout.MOST_PLACES) {
            return BAD;
        }
        if (layout.tracks >= Layout.MOST_TRACKS) {
            return FULL;
        }
        report.begin();
        if (n < 0) {
            return report.found(SIZE);
        }
        history.forget();
        return layout.addTrack(n);
    }

    public int point(int track, int end) {
        if (isNot(end, 0, 1)) {
            return BAD;
        }
        if (layout.points >= Layout.MOST_POINTS) {
            return FULL;
        }
        report.begin();
        int kind = layout.trackFinding(track);
        if (kind == FINE && layout.pointAt(2 * track + end) != NONE) {
            kind = TAKEN;
        }
        if (kind != FINE) {
            return report.found(kind);
        }
        history.forget();
        return layout.addPoint(2 * track + end);
    }

    public int link(int track, int end, int other, int otherEnd) {
        if (isNot(end, 0, 1) || isNot(otherEnd, 0, 1)) {
            return BAD;
        }
        report.begin();
        int kind = layout.trackFinding(track);
        if (kind == FINE) {
            kind = layout.trackFinding(other);
        }
        if (kind == FINE && !layout.mayJoin(2 * track + end, 2 * other + otherEnd)) {
            kind = TAKEN;
        }
        if (kind != FINE) {
            return report.found(kind);
        }
        history.forget();
        layout.join(2 * track + end, 2 * other + otherEnd);
        return 1;
    }

    public int exit(int track, int end, boolean is) {
        if (isNot(end, 0, 1)) {
            return BAD;
        }
        report.begin();
        int kind = layout.trackFinding(track);
        if (kind != FINE) {
            return report.found(kind);
        }
        history.forget();
        return layout.setExit(2 * track + end, is) ? 1 : 0;
    }

    public int wagon(int kind, int track, int place, int axles, int tare) {
        if (isNot(kind, FLAT, EMPTY) || isNot(axles, 0, 8) || isNot(tare, 1, 100)) {
            return BAD;
        }
        return standNew(track, place, kind, axles, tare);
    }

    public int engine(boolean slug, int track, int place, int power) {
        if (isNot(power, 0, 100)) {
            return BAD;
        }
        return standNew(track, place, slug ? SLUG : ENGINE, slug ? 4 : 6, power);
    }

    private int standNew(int track, int place, int kind, int axles, int tareOrPower) {
        if (state.made >= State.MOST_THINGS) {
            return FULL;
        }
        report.begin();
        int finding = layout.placeFinding(track, place);
        if (finding == FINE && state.standsAt(Layout.spot(track, place)) != NONE) {
            finding = TAKEN;
        }
        if (finding != FINE) {
            return report.found(finding);
        }
        history.forget();
        int thing = state.addThing(Layout.spot(track, place), trains.nextSerial());
        stock.describe(thing, kind, axles, tareOrPower);
        return thing;
    }

    public int bar(int a, int b, boolean is) {
        if (isNot(a, 0, DANGERS - 1) || isNot(b, 0, DANGERS - 1)) {
            return BAD;
        }
        history.forget();
        return bodies.setBarred(a, b, is) ? 1 : 0;
    }

    public int table(int k, int d) {
        if (isNot(k, 0, TABLE_NUMBERS - 1) || isNot(d, 0, 99)) {
            return BAD;
        }
        history.forget();
        int was = table[k];
        table[k] = d;
        return was;
    }

    public int route() {
        if (routes.made >= Routes.MOST_ROUTES) {
            return FULL;
        }
        history.forget();
        return routes.addRoute();
    }

    public int via(int route, int point, int link, int rank) {
        if (isNot(link, 0, Layout.MOST_LINKS - 1) || isNot(rank, 0, 99)) {
            return BAD;
        }
        report.begin();
        int kind = routes.routeFinding(route);
        if (kind == FINE) {
            kind = layout.pointFinding(point);
        }
        if (kind == FINE) {
            kind = routes.entryFinding(route, point);
        }
        if (kind != FINE) {
            return report.found(kind);
        }
        history.forget();
        return routes.addEntry(route, point, link, rank);
    }

    public int load(int thing, int sort, int n) {
        if (isNot(sort, 0, 1) || n > Stock.MOST_PIECES) {
            return BAD;
        }
        report.begin();
        int kind = named(thing, AS_WAGON);
        if (kind == FINE && n < 0) {
            kind = SIZE;
        }
        if (kind != FINE) {
            return report.found(kind);
        }
        stock.newLoad(thing, sort, n);
        return n;
    }

    public int piece(int thing, int i, int sort, int v) {
        if (isNot(sort, 0, 1) || isNot(v, 0, 120)) {
            return BAD;
        }
        report.begin();
        int kind = named(thing, AS_WAGON);
        if (kind == FINE) {
            kind = stock.pieceFinding(thing, i, sort);
        }
        if (kind != FINE) {
            return report.found(kind);
        }
        stock.setPiece(thing, i, v);
        return 1;
    }

    // ---- acts

    public int danger(int thing, int c) {
        if (isNot(c, 0, DANGERS - 1)) {
            return BAD;
        }
        beginAct();
        return endAct(ACT_DANGER, change(thing, AS_WAGON, State.DANGER, c));
    }

    public int hold(int thing, int n) {
        if (n != NONE && isNot(n, 0, 999)) {
            return BAD;
        }
        beginAct();
        return endAct(ACT_HOLD, change(thing, AS_ANY, State.FAULT, n));
    }

    public int jam(int thing, int n) {
        if (isNot(n, 0, 50)) {
            return BAD;
        }
        beginAct();
        return endAct(ACT_JAM, change(thing, AS_ANY, State.JAM, n));
    }

    public int raise(int thing) {
        report.begin();
        int kind = named(thing, AS_ANY);
        return report.found(kind != FINE ? kind : trains.raiseFinding(thing));
    }

    public int turn(int point, int k) {
        beginAct();
        return endAct(ACT_TURN, routes.turnPoint(point, k));
    }

    public int lock(int route) {
        beginAct();
        return endAct(ACT_LOCK, routes.lockAll(route));
    }

    public int free(int route) {
        beginAct();
        return endAct(ACT_FREE, routes.freeAll(route));
    }

    public int couple(int thing, int side) {
        beginAct();
        return endAct(ACT_COUPLE, coupleAhead(thing, side));
    }

    public int part(int thing, int side) {
        beginAct();
        return endAct(ACT_PART, partFrom(thing, side));
    }

    public int pull(int thing, int side, int n) {
        if (isNot(n, 1, 200)) {
            return BAD;
        }
        beginAct();
        return endAct(ACT_PULL, pullBy(thing, side, n));
    }

    public int kick(int thing, int side) {
        beginAct();
        return endAct(ACT_KICK, kickTo(thing, side));
    }

    public int step(int n) {
        if (isNot(n, 1, 50)) {
            return BAD;
        }
        // No FINDING can end this act, so the report of the call before stays.
        history.keep(state);
        return endAct(ACT_STEP, trains.runAll(n));
    }

    public int test(int thing) {
        beginAct();
        return endAct(ACT_TEST, testAll(thing));
    }

    public int leave(int thing) {
        beginAct();
        return endAct(ACT_LEAVE, leaveYard(thing));
    }

    public int roll(int track, int i, int n) {
        report.begin();
        int kind = layout.trackFinding(track);
        if (kind == FINE && (i < 0 || n < 0 || n > ROW_PLACES || i > layout.placesOf(track) - n)) {
            kind = BEYOND;
        }
        if (kind != FINE) {
            return report.found(kind);
        }
        for (int k = 0; k < n; k++) {
            int stands = state.standsAt(Layout.spot(track, i + k));
            if (stands != NONE && !stock.isAs(stands, AS_ENGINE)) {
                return report.found(STORE);
            }
            row[k] = stands;
        }
        return n;
    }

    public int store(int thing, int i) {
        report.begin();
        int kind = named(thing, AS_ANY);
        if (kind == FINE && isNot(i, 0, ROW_PLACES - 1)) {
            kind = BEYOND;
        }
        if (kind == FINE && !stock.isAs(thing, AS_ENGINE)) {
            kind = STORE;
        }
        if (kind != FINE) {
            return report.found(kind);
        }
        row[i] = thing;
        return 1;
    }

    private void beginAct() {
        report.begin();
        history.keep(state);
    }

    private int endAct(int act, int answer) {
        history.write(act, answer);
        return answer;
    }

    private int change(int thing, int wanted, int field, int value) {
        int kind = named(thing, wanted);
        if (kind != FINE) {
            return report.found(kind);
        }
        int was = state.get(thing, field);
        state.set(thing, field, value);
        return was;
    }

    private int coupleAhead(int thing, int side) {
        int kind = namedSide(thing, AS_ANY, side);
        if (kind != FINE) {
            return report.found(kind);
        }
        int hook = 2 * thing + side;
        int next = trains.nextFrom(hook);
        kind = trains.reachFinding(hook, next);
        if (kind != FINE) {
            return report.found(kind);
        }
        int back = trains.hookAt(next);
        int other = back >> 1;
        if (!bodies.suits(thing, other) || !bodies.suits(other, thing)) {
            return report.found(BARRED);
        }
        trains.joinHooks(hook, back);
        return other;
    }

    private int partFrom(int thing, int side) {
        int kind = namedSide(thing, AS_ANY, side);
        if (kind != FINE) {
            return report.found(kind);
        }
        int other = state.get(thing, State.MATE + side);
        if (other == NONE) {
            return report.found(NOTHING);
        }
        trains.cutHook(2 * thing + side);
        return other;
    }

    private int pullBy(int thing, int side, int n) {
        int kind = namedSide(thing, AS_ENGINE, side);
        if (kind != FINE) {
            return report.found(kind);
        }
        trains.lineUp(2 * thing);
        int weight = lineWeight();
        if (weight > 20 * linePulls()) {
            return report.found(WEAK);
        }
        trains.lineUp(2 * thing + side);
        for (int i = 0; i < n; i++) {
            kind = trains.stepLine();
            if (kind != FINE) {
                return report.found(kind);
            }
            report.steps++;
        }
        return n;
    }

    private int lineWeight() {
        int sum = 0;
        for (int i = 0; i < trains.length; i++) {
            sum += bodies.weight(trains.inLine(i));
        }
        return sum;
    }

    private int linePulls() {
        int sum = 0;
        for (int i = 0; i < trains.length; i++) {
            if (stock.isAs(trains.inLine(i), AS_ENGINE)) {
                sum += bodies.pulls(trains.inLine(i));
            }
        }
        return sum;
    }

    private int kickTo(int thing, int side) {
        int kind = namedSide(thing, AS_WAGON, side);
        if (kind == FINE && (state.get(thing, State.MATE) != NONE || state.get(thing, State.MATE + 1) != NONE)) {
            kind = COUPLED;
        }
        if (kind == FINE && state.isRunning(thing)) {
            kind = RUNS;
        }
        if (kind != FINE) {
            return report.found(kind);
        }
        int k = Math.min(bodies.heavy(thing) / 40, TABLE_NUMBERS - 1);
        int d = k < 0 ? 0 : table[k];
        state.beginRun(thing, side, d);
        return d;
    }

    private int testAll(int thing) {
        int kind = named(thing, AS_ANY);
        if (kind != FINE) {
            return report.found(kind);
        }
        trains.lineUp(2 * thing);
        int good = 0;
        for (int i = 0; i < trains.length; i++) {
            int brake = bodies.brake(trains.inLine(i));
            int perAxle = bodies.perAxle(trains.inLine(i));
            if (perAxle == NONE) {
                return report.found(ZERO);
            }
            if (2 * brake >= perAxle) {
                good++;
            }
        }
        trains.setLine(State.TESTED, good == trains.length ? 1 : 0);
        return good;
    }

    private int leaveYard(int thing) {
        int kind = named(thing, AS_ENGINE);
        if (kind == FINE) {
            trains.lineUp(2 * thing);
            kind = trains.leaveFinding();
        }
        if (kind != FINE) {
            return report.found(kind);
        }
        trains.setLine(State.SPOT, State.AWAY);
        return trains.length;
    }

    // ---- what is asked

    public int rolled(int i) {
        report.begin();
        if (isNot(i, 0, ROW_PLACES - 1)) {
            return report.found(BEYOND);
        }
        return row[i];
    }

    public int at(int track, int place) {
        report.begin();
        int kind = layout.placeFinding(track, place);
        if (kind != FINE) {
            return report.found(kind);
        }
        return state.standsAt(Layout.spot(track, place));
    }

    public int thing(int thing, int what) {
        if (isNot(what, 0, 10)) {
            return BAD;
        }
        report.begin();
        int kind = named(thing, AS_ANY);
        if (kind != FINE) {
            return report.found(kind);
        }
        switch (what) {
            case 0: return stock.get(thing, Stock.KIND);
            case 1: return Layout.trackOf(state.get(thing, State.SPOT));
            case 2: return Layout.placeOf(state.get(thing, State.SPOT));
            case 3: return state.get(thing, State.LOOK);
            case 4: return state.get(thing, State.MATE);
            case 5: return state.get(thing, State.MATE + 1);
            case 6: return state.get(thing, State.SERIAL);
            case 7: return state.get(thing, State.FAULT);
            case 8: return state.get(thing, State.JAM);
            case 9: return state.get(thing, State.RUN);
            default: return state.get(thing, State.TESTED);
        }
    }

    public int pointed(int point, int what) {
        if (isNot(what, 0, 4)) {
            return BAD;
        }
        report.begin();
        int kind = layout.pointFinding(point);
        if (kind != FINE) {
            return report.found(kind);
        }
        int end = layout.endOf(point);
        switch (what) {
            case 0: return end >> 1;
            case 1: return end & 1;
            case 2: return layout.linksAt(end);
            case 3: return state.setting(point);
            default: return state.locker(point);
        }
    }

    public int ask(int thing, int what) {
        if (isNot(what, 0, 7)) {
            return BAD;
        }
        report.begin();
        int kind = named(thing, wantedFor(what));
        if (kind == FINE && what == 6 && stock.get(thing, Stock.LOAD_SORT) == NONE) {
            kind = NOTHING;
        }
        if (kind != FINE) {
            return report.found(kind);
        }
        switch (what) {
            case 0: return bodies.weight(thing);
            case 1: return bodies.brake(thing);
            case 2: return bodies.heavy(thing);
            case 3: return orZero(bodies.perAxle(thing));
            case 4: return bodies.pulls(thing);
            case 5: return state.get(thing, State.DANGER);
            case 6: return stock.get(thing, Stock.LOAD_SIZE);
            default: return stock.get(thing, Stock.AXLES);
        }
    }

    private static int wantedFor(int what) {
        switch (what) {
            case 4: return AS_ENGINE;
            case 5: return AS_WAGON;
            case 6: return AS_FLAT;
            case 7: return AS_COLD;
            default: return AS_ANY;
        }
    }

    /** A quotient, where NONE tells that there was nothing to divide by. */
    private int orZero(int quotient) {
        return quotient == NONE ? report.found(ZERO) : quotient;
    }

    public int meet(int thing, int side, int n) {
        if (isNot(n, 0, 100)) {
            return BAD;
        }
        report.begin();
        int kind = namedSide(thing, AS_ANY, side);
        if (kind != FINE) {
            return report.found(kind);
        }
        int hook = 2 * thing + side;
        for (int i = 0; i < n; i++) {
            hook = trains.onward(hook);
            if (hook == NONE) {
                return report.found(NOTHING);
            }
        }
        return hook >> 1;
    }

    public int weigh(int thing) {
        report.begin();
        int kind = named(thing, AS_ANY);
        if (kind != FINE) {
            return report.found(kind);
        }
        trains.lineUp(2 * thing);
        return lineWeight();
    }

    public int share(int thing) {
        report.begin();
        int kind = named(thing, AS_ANY);
        if (kind != FINE) {
            return report.found(kind);
        }
        trains.lineUp(2 * thing);
        int brakes = 0;
        int axles = 0;
        for (int i = 0; i < trains.length; i++) {
            brakes += bodies.brake(trains.inLine(i));
            axles += stock.get(trains.inLine(i), Stock.AXLES);
        }
        return orZero(axles == 0 ? NONE : 100 * brakes / axles);
    }

    public int consist(int thing, int k) {
        if (k < 0) {
            return BAD;
        }
        report.begin();
        int kind = named(thing, AS_ANY);
        if (kind != FINE) {
            return report.found(kind);
        }
        trains.lineUp(2 * thing);
        return trains.inLine(k);
    }

    public int finding(int what) {
        switch (what) {
            case 0: return report.kind;
            case 1: return report.fault;
            case 2: return report.steps;
            case 3: return report.locker;
            default: return BAD;
        }
    }

    public int count(int k) {
        switch (k) {
            case 0: return layout.tracks;
            case -1: return state.made;
            case -2: return state.there();
            case -3: return state.running();
            case -4: return state.damps();
            case -5: return trains.serials;
            case -6: return layout.points;
            case -7: return routes.made;
            case -8: return history.undoable;
            case -9: return history.redoable;
            default: return report.ever(k);
        }
    }

    public int trace(int k) {
        return k < 0 ? BAD : report.bodyAt(k);
    }

    public int undo() {
        return history.goBack(state) ? 1 : 0;
    }

    public int back() {
        return history.goOn(state) ? 1 : 0;
    }

    public long digest() {
        long d = 7;
        for (int thing = 0; thing < state.made; thing++) {
            d = digestThing(d, thing);
        }
        for (int point = 0; point < layout.points; point++) {
            d = 31 * d + state.setting(point);
            d = 31 * d + state.locker(point);
        }
        return d;
    }

    private long digestThing(long digest, int thing) {
        if (!state.isThere(thing)) {
            return 31 * digest - 1;
        }
        long d = 31 * digest + state.get(thing, State.SPOT);
        d = 31 * d + state.get(thing, State.LOOK);
        d = 31 * d + state.get(thing, State.MATE);
        d = 31 * d + state.get(thing, State.MATE + 1);
        d = 31 * d + state.get(thing, State.FAULT);
        d = 31 * d + state.get(thing, State.JAM);
        d = 31 * d + state.get(thing, State.RUN);
        d = 31 * d + state.get(thing, State.DANGER);
        return 31 * d + state.get(thing, State.TESTED);
    }

    public int log(int k, int what) {
        if (k < 0 || isNot(what, 0, 1)) {
            return BAD;
        }
        return history.written(k, what);
    }

    // ---- plans

    public int room(int stack, int n) {
        if (isNot(stack, 0, Stacks.STACKS - 1) || isNot(n, 1, Stacks.WAGONS)) {
            return BAD;
        }
        return plans.setRoom(stack, n);
    }

    public int lay(boolean goal, int stack, int wagon) {
        if (isNot(stack, 0, Stacks.STACKS - 1) || isNot(wagon, 0, Stacks.WAGONS - 1)) {
            return BAD;
        }
        return plans.put(goal, stack, wagon);
    }

    public int wipe() {
        return plans.clear();
    }

    public int plan(int way) {
        if (isNot(way, 0, 1) || !plans.haveSameWagons()) {
            return BAD;
        }
        if (way == 1) {
            return plans.makeByRule();
        }
        return plans.isSmall() ? plans.makeLeast() : BAD;
    }

    public int move(int k, int what) {
        if (k < 0 || isNot(what, 0, 2)) {
            return BAD;
        }
        return plans.moveAt(k, what);
    }

    public int bound() {
        return plans.haveSameWagons() ? plans.countMoved() : BAD;
    }

    public int proof(int k) {
        return k < 0 ? BAD : plans.potentialAt(k);
    }

    public int spoil(int k, int v) {
        if (k < 0 || isNot(v, 0, 99)) {
            return BAD;
        }
        return plans.setPotential(k, v);
    }

    public int check() {
        return plans.holds() ? 1 : 0;
    }

    // ---- what the calls share

    private static boolean isNot(int number, int least, int most) {
        return number < least || number > most;
    }

    /** The FINDING of a THING that is WANTED AS one of some KINDS. */
    private int named(int thing, int wanted) {
        if (isNot(thing, 0, State.MOST_THINGS - 1)) {
            return BEYOND;
        }
        if (thing >= state.made) {
            return NOTHING;
        }
        if (!stock.isAs(thing, wanted)) {
            return NOT_SUCH;
        }
        return state.isThere(thing) ? FINE : NOTHING;
    }

    private int namedSide(int thing, int wanted, int side) {
        int kind = named(thing, wanted);
        if (kind == FINE && isNot(side, 0, 1)) {
            return BEYOND;
        }
        return kind;
    }

    /** What the latest call that may be FOUND tells: its FINDING and its TRACE. */
    private static final class Report {
        static final int KINDS = 17, MOST_BODIES = 200;

        private final int[] everFound = new int[KINDS + 1];
        private final int[] bodies = new int[MOST_BODIES];
        private int told = 0;
        int kind = FINE;
        int fault = NONE;
        int steps = 0;
        int locker = NONE;

        void begin() {
            told = 0;
            kind = FINE;
            fault = NONE;
            steps = 0;
            locker = NONE;
        }

        int found(int finding) {
            kind = finding;
            if (finding > 0 && finding <= KINDS) {
                everFound[finding]++;
            }
            return FOUND;
        }

        int ever(int finding) {
            return finding < 1 || finding > KINDS ? BAD : everFound[finding];
        }

        void beginBody(int number) {
            if (told < MOST_BODIES) {
                bodies[told] = number;
                told++;
            }
        }

        int bodyAt(int k) {
            return k < 0 || k >= told || k >= MOST_BODIES ? NONE : bodies[k];
        }
    }

    /**
     * STATE, in one row of numbers, so that keeping it is one copy and giving it back is one exchange. How many
     * THINGS were made is no part of it: making one forgets all that is kept.
     */
    private static final class State {
        static final int MOST_THINGS = 72;
        static final int SPOT = 0, LOOK = 1, MATE = 2, SERIAL = 4, FAULT = 5, JAM = 6, DANGER = 7, RUN = 8,
                RUN_SIDE = 9, TESTED = 10;
        /** SPOT of a THING that left. */
        static final int AWAY = -1;

        private static final int FIELDS = 11;
        private static final int DAMPS = 0, RUNNING = 1, RUNNERS = 2;
        private static final int SETTINGS = RUNNERS + MOST_THINGS;
        private static final int LOCKERS = SETTINGS + Layout.MOST_POINTS;
        private static final int THINGS = LOCKERS + Layout.MOST_POINTS;
        static final int CELLS = THINGS + FIELDS * MOST_THINGS;

        int[] cells = new int[CELLS];
        int made = 0;

        int usedCells() {
            return THINGS + FIELDS * made;
        }

        int addThing(int spot, int serial) {
            if (made >= MOST_THINGS) {
                return NONE;
            }
            int thing = made;
            made++;
            Arrays.fill(cells, THINGS + FIELDS * thing, THINGS + FIELDS * made, 0);
            set(thing, SPOT, spot);
            set(thing, LOOK, 1);
            set(thing, MATE, NONE);
            set(thing, MATE + 1, NONE);
            set(thing, SERIAL, serial);
            set(thing, FAULT, NONE);
            return thing;
        }

        int get(int thing, int field) {
            return thing >= 0 && thing < made ? cells[THINGS + FIELDS * thing + field] : NONE;
        }

        void set(int thing, int field, int value) {
            if (thing >= 0 && thing < made) {
                cells[THINGS + FIELDS * thing + field] = value;
            }
        }

        boolean isThere(int thing) {
            return get(thing, SPOT) >= 0;
        }

        int there() {
            int sum = 0;
            for (int thing = 0; thing < made; thing++) {
                if (isThere(thing)) {
                    sum++;
                }
            }
            return sum;
        }

        int standsAt(int spot) {
            for (int thing = 0; thing < made; thing++) {
                if (get(thing, SPOT) == spot) {
                    return thing;
                }
            }
            return NONE;
        }

        /** Where a SIDE LOOKS; hook 2 t + s is SIDE s of THING t. */
        int looks(int hook) {
            return get(hook >> 1, LOOK) ^ (hook & 1);
        }

        void goTo(int hook, int spot, int direction) {
            set(hook >> 1, SPOT, spot);
            set(hook >> 1, LOOK, direction ^ (hook & 1));
        }

        boolean isRunning(int thing) {
            return get(thing, RUN) > 0;
        }

        int running() {
            return cells[RUNNING];
        }

        int runner(int k) {
            return k < 0 || k >= cells[RUNNING] || k >= MOST_THINGS ? NONE : cells[RUNNERS + k];
        }

        void beginRun(int thing, int side, int d) {
            if (d <= 0 || cells[RUNNING] >= MOST_THINGS) {
                return;
            }
            set(thing, RUN, d);
            set(thing, RUN_SIDE, side);
            cells[RUNNERS + cells[RUNNING]] = thing;
            cells[RUNNING]++;
        }

        void endRun(int k) {
            if (k < 0 || k >= cells[RUNNING]) {
                return;
            }
            set(runner(k), RUN, 0);
            cells[RUNNING]--;
            for (int i = k; i < cells[RUNNING]; i++) {
                cells[RUNNERS + i] = cells[RUNNERS + i + 1];
            }
        }

        int damps() {
            return cells[DAMPS];
        }

        void addDamp() {
            cells[DAMPS]++;
        }

        int setting(int point) {
            return point >= 0 && point < Layout.MOST_POINTS ? cells[SETTINGS + point] : NONE;
        }

        int locker(int point) {
            return point >= 0 && point < Layout.MOST_POINTS ? cells[LOCKERS + point] : NONE;
        }

        void setPoint(int point, int setting, int locker) {
            if (point >= 0 && point < Layout.MOST_POINTS) {
                cells[SETTINGS + point] = setting;
                cells[LOCKERS + point] = locker;
            }
        }
    }

    /**
     * The STATES that are kept, and the ACTS that were. Of the ring of STATES the first ones are for undo(), the
     * next ones for back(): whoever goes over the border between them leaves there the STATE that was.
     */
    private static final class History {
        static final int KEPT = 8, WRITTEN = 40;

        private final int[][] kept = new int[KEPT][State.CELLS];
        private final int[] acts = new int[WRITTEN];
        private final int[] answers = new int[WRITTEN];
        private int oldest = 0;
        private int latest = 0;
        private int written = 0;
        int undoable = 0;
        int redoable = 0;

        void forget() {
            undoable = 0;
            redoable = 0;
        }

        void keep(State state) {
            redoable = 0;
            if (undoable >= KEPT) {
                oldest = (oldest + 1) % KEPT;
                undoable = KEPT - 1;
            }
            System.arraycopy(state.cells, 0, kept[border()], 0, state.usedCells());
            undoable++;
        }

        private int border() {
            return (oldest + undoable) % KEPT;
        }

        boolean goBack(State state) {
            if (undoable == 0) {
                return false;
            }
            undoable--;
            redoable++;
            exchange(state);
            return true;
        }

        boolean goOn(State state) {
            if (redoable == 0) {
                return false;
            }
            exchange(state);
            redoable--;
            undoable++;
            return true;
        }

        private void exchange(State state) {
            int[] was = state.cells;
            state.cells = kept[border()];
            kept[border()] = was;
        }

        void write(int act, int answer) {
            latest = (latest + 1) % WRITTEN;
            acts[latest] = act;
            answers[latest] = answer;
            written = Math.min(written + 1, WRITTEN);
        }

        int written(int k, int what) {
            if (k < 0 || k >= written) {
                return NONE;
            }
            int i = (latest + WRITTEN - k) % WRITTEN;
            return what == 0 ? acts[i] : answers[i];
        }
    }

    /** What THINGS are told to be when they are made, and their LOADS: nothing of it is STATE. */
    private static final class Stock {
        static final int MOST_PIECES = 20;
        /** LOAD_SORT is NONE, and the other numbers of a LOAD are 0, where it is NOTHING. */
        static final int KIND = 0, AXLES = 1, TARE = 2, POWER = 2, LOAD_SORT = 3, LOAD_SIZE = 4, LOAD_SUM = 5;
        private static final int FIELDS = 6;

        private final int[] facts = new int[State.MOST_THINGS * FIELDS];
        private final int[] pieces = new int[State.MOST_THINGS * MOST_PIECES];

        void describe(int thing, int kind, int axles, int tareOrPower) {
            set(thing, KIND, kind);
            set(thing, AXLES, axles);
            set(thing, TARE, tareOrPower);
            set(thing, LOAD_SORT, NONE);
        }

        int get(int thing, int field) {
            return thing >= 0 && thing < State.MOST_THINGS ? facts[FIELDS * thing + field] : NONE;
        }

        private void set(int thing, int field, int value) {
            if (thing >= 0 && thing < State.MOST_THINGS) {
                facts[FIELDS * thing + field] = value;
            }
        }

        boolean isAs(int thing, int wanted) {
            int kind = get(thing, KIND);
            return kind >= 0 && (wanted >> kind & 1) == 1;
        }

        void newLoad(int thing, int sort, int n) {
            set(thing, LOAD_SORT, sort);
            set(thing, LOAD_SIZE, n);
            set(thing, LOAD_SUM, 0);
            for (int i = 0; i < n; i++) {
                putPiece(thing, i, 0);
            }
        }

        int pieceFinding(int thing, int i, int sort) {
            int loaded = get(thing, LOAD_SORT);
            if (loaded == NONE) {
                return NOTHING;
            }
            if (loaded != sort) {
                return NOT_SUCH;
            }
            return i < 0 || i >= get(thing, LOAD_SIZE) ? BEYOND : FINE;
        }

        void setPiece(int thing, int i, int v) {
            int was = putPiece(thing, i, v);
            set(thing, LOAD_SUM, get(thing, LOAD_SUM) - was + v);
        }

        private int putPiece(int thing, int i, int v) {
            if (thing < 0 || thing >= State.MOST_THINGS || i < 0 || i >= MOST_PIECES) {
                return v;
            }
            int was = pieces[MOST_PIECES * thing + i];
            pieces[MOST_PIECES * thing + i] = v;
            return was;
        }
    }

    /** TRACKS, POINTS and LINKS. END e of TRACK t is end 2 t + e; PLACE p of it is spot 24 t + p. */
    private static final class Layout {
        static final int MOST_TRACKS = 24, MOST_PLACES = 24, MOST_POINTS = 40, MOST_LINKS = 3;
        private static final int ENDS = 2 * MOST_TRACKS;

        private final State state;
        private final int[] places = new int[MOST_TRACKS];
        private final int[] pointAtEnd = new int[ENDS];
        private final int[] endOfPoint = new int[MOST_POINTS];
        private final int[] linkNumbers = new int[ENDS];
        private final int[] farEnds = new int[ENDS * MOST_LINKS];
        private final boolean[] leadsOut = new boolean[ENDS];
        int tracks = 0;
        int points = 0;

        Layout(State state) {
            this.state = state;
            Arrays.fill(pointAtEnd, NONE);
        }

        static int spot(int track, int place) {
            return MOST_PLACES * track + place;
        }

        static int trackOf(int spot) {
            return spot / MOST_PLACES;
        }

        static int placeOf(int spot) {
            return spot % MOST_PLACES;
        }

        private static boolean isEnd(int end) {
            return end >= 0 && end < ENDS;
        }

        int addTrack(int n) {
            if (tracks >= MOST_TRACKS) {
                return FULL;
            }
            places[tracks] = n;
            tracks++;
            return tracks - 1;
        }

        int addPoint(int end) {
            if (points >= MOST_POINTS || !isEnd(end)) {
                return FULL;
            }
            pointAtEnd[end] = points;
            endOfPoint[points] = end;
            state.setPoint(points, 0, NONE);
            points++;
            return points - 1;
        }

        int trackFinding(int track) {
            if (track < 0 || track >= MOST_TRACKS) {
                return BEYOND;
            }
            return track < tracks ? FINE : NOTHING;
        }

        int placeFinding(int track, int place) {
            int kind = trackFinding(track);
            if (kind == FINE && (place < 0 || place >= placesOf(track))) {
                return BEYOND;
            }
            return kind;
        }

        int pointFinding(int point) {
            if (point < 0 || point >= MOST_POINTS) {
                return BEYOND;
            }
            return point < points ? FINE : NOTHING;
        }

        int placesOf(int track) {
            return track >= 0 && track < tracks ? places[track] : 0;
        }

        int pointAt(int end) {
            return end >= 0 && end < ENDS ? pointAtEnd[end] : NONE;
        }

        int endOf(int point) {
            return point >= 0 && point < points ? endOfPoint[point] : NONE;
        }

        int linksAt(int end) {
            return end >= 0 && end < ENDS ? linkNumbers[end] : 0;
        }

        boolean mayJoin(int end, int other) {
            return end != other && !areJoined(end, other) && mayGetLink(end) && mayGetLink(other);
        }

        private boolean areJoined(int end, int other) {
            for (int k = 0; k < linksAt(end); k++) {
                if (farEnds[MOST_LINKS * end + k] == other) {
                    return true;
                }
            }
            return false;
        }

        private boolean mayGetLink(int end) {
            return linksAt(end) < (pointAt(end) == NONE ? 1 : MOST_LINKS);
        }

        void join(int end, int other) {
            addLink(end, other);
            addLink(other, end);
        }

        private void addLink(int end, int other) {
            if (isEnd(end) && linkNumbers[end] < MOST_LINKS) {
                farEnds[MOST_LINKS * end + linkNumbers[end]] = other;
                linkNumbers[end]++;
            }
        }

        /** The END to which an END leads as its POINT is SET; NONE. */
        private int leadsTo(int end) {
            int point = pointAt(end);
            int k = point == NONE ? 0 : state.setting(point);
            return k < 0 || k >= linksAt(end) ? NONE : farEnds[MOST_LINKS * end + k];
        }

        boolean setExit(int end, boolean is) {
            if (!isEnd(end)) {
                return false;
            }
            boolean was = leadsOut[end];
            leadsOut[end] = is;
            return was;
        }

        /** Whether one who looks in a direction from a spot looks out of the yard. */
        boolean isWayOut(int spot, int direction) {
            int end = endNextTo(spot, direction);
            return isEnd(end) && leadsOut[end];
        }

        /** The END that lies just behind a spot in a direction; NONE: a PLACE does. */
        private int endNextTo(int spot, int direction) {
            int track = trackOf(spot);
            int last = direction == 0 ? 0 : placesOf(track) - 1;
            return placeOf(spot) == last ? 2 * track + direction : NONE;
        }

        int spotAt(int end) {
            int track = end >> 1;
            return spot(track, (end & 1) == 0 ? 0 : placesOf(track) - 1);
        }

        /** THE NEXT PLACE, as 2 spot + the new direction; NONE: CLOSED. */
        int nextPlace(int spot, int direction) {
            int end = endNextTo(spot, direction);
            if (end == NONE) {
                return 2 * (spot + 2 * direction - 1) + direction;
            }
            int far = leadsTo(end);
            // An END without a POINT has this LINK alone, so it leads back too.
            if (far == NONE || leadsTo(far) != end || spotAt(far) == spot) {
                return NONE;
            }
            return 2 * spotAt(far) + 1 - (far & 1);
        }
    }

    /** ROUTES, and what they and turn() do to POINTS. The ENTRIES of a ROUTE stand in the order of locking. */
    private static final class Routes {
        static final int MOST_ROUTES = 12, MOST_ENTRIES = 8;

        private final State state;
        private final Layout layout;
        private final Report report;
        private final int[] entryNumbers = new int[MOST_ROUTES];
        private final int[] entryPoints = new int[MOST_ROUTES * MOST_ENTRIES];
        private final int[] entryLinks = new int[MOST_ROUTES * MOST_ENTRIES];
        private final int[] entryRanks = new int[MOST_ROUTES * MOST_ENTRIES];
        private final int[] settingsBefore = new int[MOST_ENTRIES];
        int made = 0;

        Routes(State state, Layout layout, Report report) {
            this.state = state;
            this.layout = layout;
            this.report = report;
        }

        int addRoute() {
            if (made >= MOST_ROUTES) {
                return FULL;
            }
            made++;
            return made - 1;
        }

        int routeFinding(int route) {
            if (route < 0 || route >= MOST_ROUTES) {
                return BEYOND;
            }
            return route < made ? FINE : NOTHING;
        }

        int entryFinding(int route, int point) {
            int first = MOST_ENTRIES * route;
            int number = entriesOf(route);
            for (int i = first; i < first + number; i++) {
                if (entryPoints[i] == point) {
                    return TAKEN;
                }
            }
            if (number >= MOST_ENTRIES) {
                return TAKEN;
            }
            return lockedBy(route) == 0 ? FINE : lockedFinding(route);
        }

        private int entriesOf(int route) {
            return route >= 0 && route < made ? entryNumbers[route] : 0;
        }

        private int lockedBy(int route) {
            int sum = 0;
            for (int point = 0; point < layout.points; point++) {
                if (state.locker(point) == route) {
                    sum++;
                }
            }
            return sum;
        }

        private int lockedFinding(int route) {
            report.locker = route;
            return LOCKED;
        }

        int addEntry(int route, int point, int link, int rank) {
            int number = entriesOf(route);
            if (route < 0 || route >= made || number >= MOST_ENTRIES) {
                return FULL;
            }
            int first = MOST_ENTRIES * route;
            int i = first + number;
            while (i > first && isBehind(i - 1, point, rank)) {
                putEntry(i, entryPoints[i - 1], entryLinks[i - 1], entryRanks[i - 1]);
                i--;
            }
            putEntry(i, point, link, rank);
            entryNumbers[route]++;
            return entryNumbers[route];
        }

        private boolean isBehind(int i, int point, int rank) {
            return entryRanks[i] > rank || entryRanks[i] == rank && entryPoints[i] > point;
        }

        private void putEntry(int i, int point, int link, int rank) {
            entryPoints[i] = point;
            entryLinks[i] = link;
            entryRanks[i] = rank;
        }

        int turnPoint(int point, int k) {
            int kind = layout.pointFinding(point);
            if (kind == FINE && !hasLink(point, k)) {
                kind = BEYOND;
            }
            int was = state.setting(point);
            if (kind == FINE && was != k) {
                kind = turnFinding(point);
            }
            if (kind != FINE) {
                return report.found(kind);
            }
            state.setPoint(point, k, state.locker(point));
            return was;
        }

        private int turnFinding(int point) {
            if (state.locker(point) != NONE) {
                return lockedFinding(state.locker(point));
            }
            return isUnder(point) ? UNDER : FINE;
        }

        private boolean hasLink(int point, int k) {
            return k >= 0 && k < layout.linksAt(layout.endOf(point));
        }

        private boolean isUnder(int point) {
            return state.standsAt(layout.spotAt(layout.endOf(point))) != NONE;
        }

        int lockAll(int route) {
            int kind = routeFinding(route);
            if (kind != FINE) {
                return report.found(kind);
            }
            int number = entriesOf(route);
            int first = MOST_ENTRIES * route;
            for (int k = 0; k < number; k++) {
                int point = entryPoints[first + k];
                kind = lockFinding(point, entryLinks[first + k]);
                if (kind != FINE) {
                    giveBack(first, k);
                    return report.found(kind);
                }
                settingsBefore[k] = state.setting(point);
                state.setPoint(point, entryLinks[first + k], route);
            }
            return number;
        }

        private int lockFinding(int point, int link) {
            if (state.locker(point) != NONE) {
                return lockedFinding(state.locker(point));
            }
            if (!hasLink(point, link)) {
                return BEYOND;
            }
            return state.setting(point) != link && isUnder(point) ? UNDER : FINE;
        }

        private void giveBack(int first, int number) {
            for (int k = 0; k < number; k++) {
                state.setPoint(entryPoints[first + k], settingsBefore[k], NONE);
            }
        }

        int freeAll(int route) {
            int kind = routeFinding(route);
            if (kind != FINE) {
                return report.found(kind);
            }
            int number = lockedBy(route);
            for (int point = 0; point < layout.points; point++) {
                if (state.locker(point) == route) {
                    state.setPoint(point, state.setting(point), NONE);
                }
            }
            return number;
        }
    }

    /**
     * CONSISTS, and how they and RUNNING WAGONS go. Hook 2 t + s is SIDE s of THING t. The line is the CONSIST that
     * was lined up last, each THING told by the hook of its side ahead.
     */
    private static final class Trains {
        private final State state;
        private final Layout layout;
        private final Report report;
        private final int[] line = new int[State.MOST_THINGS];
        int length = 0;
        /** SERIALS given: no STATE, they go on. */
        int serials = 0;

        Trains(State state, Layout layout, Report report) {
            this.state = state;
            this.layout = layout;
            this.report = report;
        }

        int nextSerial() {
            serials++;
            return serials;
        }

        private boolean isCoupled(int hook) {
            return state.get(hook >> 1, State.MATE + (hook & 1)) != NONE;
        }

        /** Over a coupling: the other side of whom it leads to; NONE. */
        int onward(int hook) {
            int other = state.get(hook >> 1, State.MATE + (hook & 1));
            if (other == NONE) {
                return NONE;
            }
            return state.get(other, State.MATE) == hook >> 1 ? 2 * other + 1 : 2 * other;
        }

        /** The line of a CONSIST, its first THING being the last one that a hook leads to. */
        void lineUp(int hook) {
            int lead = hook;
            for (int i = 0; i < State.MOST_THINGS && onward(lead) != NONE; i++) {
                lead = onward(lead);
            }
            length = 0;
            int rear = lead ^ 1;
            while (rear != NONE && length < State.MOST_THINGS) {
                line[length] = rear ^ 1;
                length++;
                rear = onward(rear);
            }
        }

        private int hookInLine(int i) {
            return i < 0 || i >= length || i >= State.MOST_THINGS ? NONE : line[i];
        }

        int inLine(int i) {
            int hook = hookInLine(i);
            return hook == NONE ? NONE : hook >> 1;
        }

        void setLine(int field, int value) {
            for (int i = 0; i < length; i++) {
                state.set(inLine(i), field, value);
            }
        }

        int nextFrom(int hook) {
            return layout.nextPlace(state.get(hook >> 1, State.SPOT), state.looks(hook));
        }

        /** The hook that LOOKS back at who would come to a next place, of what stands there; NONE. */
        int hookAt(int next) {
            int other = next == NONE ? NONE : state.standsAt(next >> 1);
            if (other == NONE) {
                return NONE;
            }
            return state.looks(2 * other) == (next & 1) ? 2 * other + 1 : 2 * other;
        }

        /** The FINDING of coupling a hook, as far as the places and couplings of both go. */
        int reachFinding(int hook, int next) {
            if (isCoupled(hook)) {
                return COUPLED;
            }
            if (state.isRunning(hook >> 1)) {
                return RUNS;
            }
            if (next == NONE) {
                return CLOSED;
            }
            int back = hookAt(next);
            if (back == NONE) {
                return NOTHING;
            }
            if (state.isRunning(back >> 1)) {
                return RUNS;
            }
            return isCoupled(back) || areOne(hook >> 1, back >> 1) ? COUPLED : FINE;
        }

        private boolean areOne(int thing, int other) {
            lineUp(2 * thing);
            for (int i = 0; i < length; i++) {
                if (inLine(i) == other) {
                    return true;
                }
            }
            return false;
        }

        void joinHooks(int hook, int other) {
            state.set(hook >> 1, State.MATE + (hook & 1), other >> 1);
            state.set(other >> 1, State.MATE + (other & 1), hook >> 1);
            renew(hook >> 1);
        }

        void cutHook(int hook) {
            int other = onward(hook) ^ 1;
            state.set(hook >> 1, State.MATE + (hook & 1), NONE);
            state.set(other >> 1, State.MATE + (other & 1), NONE);
            renew(hook >> 1);
            renew(other >> 1);
        }

        private void renew(int thing) {
            lineUp(2 * thing);
            setLine(State.SERIAL, nextSerial());
            setLine(State.TESTED, 0);
        }

        /** Sets the FAULT told by the report: the FINDING is HELD then. */
        int raiseFinding(int thing) {
            report.fault = state.get(thing, State.FAULT);
            return report.fault == NONE ? NONE_HELD : HELD;
        }

        /** A STEP of the line to the side of its first THING: its FINDING, or FINE. */
        int stepLine() {
            int next = nextFrom(hookInLine(0));
            if (next == NONE) {
                return CLOSED;
            }
            if (state.standsAt(next >> 1) != NONE) {
                return TAKEN;
            }
            // Who will raise is looked for before any JAM is made less: so nothing has to be taken back.
            for (int i = 0; i < length; i++) {
                if (state.get(inLine(i), State.JAM) == 1) {
                    return raiseFinding(inLine(i));
                }
            }
            moveLine(next);
            return FINE;
        }

        private void moveLine(int next) {
            int spot = next >> 1;
            int direction = next & 1;
            for (int i = 0; i < length; i++) {
                int hook = hookInLine(i);
                int spotWas = state.get(hook >> 1, State.SPOT);
                int directionWas = state.looks(hook);
                state.goTo(hook, spot, direction);
                state.set(hook >> 1, State.JAM, Math.max(state.get(hook >> 1, State.JAM) - 1, 0));
                spot = spotWas;
                direction = directionWas;
            }
        }

        int leaveFinding() {
            for (int i = 0; i < length; i++) {
                if (state.get(inLine(i), State.TESTED) == 0) {
                    return UNTESTED;
                }
            }
            return looksOut(hookInLine(0)) || looksOut(hookInLine(length - 1) ^ 1) ? FINE : CLOSED;
        }

        private boolean looksOut(int hook) {
            return layout.isWayOut(state.get(hook >> 1, State.SPOT), state.looks(hook));
        }

        int runAll(int n) {
            for (int i = 0; i < n; i++) {
                int k = 0;
                for (int left = state.running(); left > 0; left--) {
                    if (runsOn(state.runner(k))) {
                        k++;
                    } else {
                        state.endRun(k);
                    }
                }
            }
            return state.running();
        }

        /** One turn of a WAGON that RUNS: whether it RUNS on. */
        private boolean runsOn(int wagon) {
            int hook = 2 * wagon + state.get(wagon, State.RUN_SIDE);
            int next = nextFrom(hook);
            if (next == NONE) {
                return false;
            }
            int other = state.standsAt(next >> 1);
            if (other == NONE) {
                state.goTo(hook, next >> 1, next & 1);
            } else if (!state.isRunning(other)) {
                state.addDamp();
                return false;
            }
            int left = state.get(wagon, State.RUN) - 1;
            state.set(wagon, State.RUN, left);
            return left > 0;
        }
    }

    /** BODIES, chosen by KIND. Each tells TRACE its number when it begins. */
    private static final class Bodies {
        private final State state;
        private final Stock stock;
        private final Report report;
        private final boolean[] barred = new boolean[DANGERS * DANGERS];

        Bodies(State state, Stock stock, Report report) {
            this.state = state;
            this.stock = stock;
            this.report = report;
        }

        private int kindOf(int thing) {
            return stock.get(thing, Stock.KIND);
        }

        int weight(int thing) {
            switch (kindOf(thing)) {
                case TANK:
                    return tankWeight(thing);
                case COLD:
                    report.beginBody(3);
                    return tankWeight(thing) + 5;
                case EMPTY:
                    report.beginBody(4);
                    return stock.get(thing, Stock.TARE);
                case ENGINE:
                case SLUG:
                    report.beginBody(5);
                    return 80 + stock.get(thing, Stock.POWER);
                default:
                    return flatWeight(thing);
            }
        }

        private int flatWeight(int thing) {
            report.beginBody(1);
            return stock.get(thing, Stock.TARE) + stock.get(thing, Stock.LOAD_SUM);
        }

        private int tankWeight(int thing) {
            report.beginBody(2);
            return flatWeight(thing) + stock.get(thing, Stock.LOAD_SIZE);
        }

        int brake(int thing) {
            int axles = stock.get(thing, Stock.AXLES);
            switch (kindOf(thing)) {
                case COLD:
                    report.beginBody(7);
                    return flatBrake(axles) + 2;
                case LONG:
                    report.beginBody(8);
                    return 3 * axles;
                case EMPTY:
                    report.beginBody(9);
                    return axles;
                case ENGINE:
                    return engineBrake();
                case SLUG:
                    report.beginBody(11);
                    return engineBrake() + 5;
                default:
                    return flatBrake(axles);
            }
        }

        private int flatBrake(int axles) {
            report.beginBody(6);
            return 4 * axles;
        }

        private int engineBrake() {
            report.beginBody(10);
            return 30;
        }

        int heavy(int thing) {
            boolean isLong = kindOf(thing) == LONG;
            if (isLong) {
                report.beginBody(13);
            }
            report.beginBody(12);
            int plain = 2 * weight(thing) + stock.get(thing, Stock.AXLES);
            return isLong ? plain + 10 : plain;
        }

        /** NONE: it has no AXLES. */
        int perAxle(int thing) {
            report.beginBody(14);
            int weight = weight(thing);
            int axles = stock.get(thing, Stock.AXLES);
            return axles <= 0 ? NONE : weight / axles;
        }

        int pulls(int thing) {
            if (kindOf(thing) != SLUG) {
                return enginePulls(thing);
            }
            report.beginBody(16);
            return isFed(thing, 0) || isFed(thing, 1) ? enginePulls(thing) : 0;
        }

        private int enginePulls(int thing) {
            report.beginBody(15);
            return stock.get(thing, Stock.POWER);
        }

        private boolean isFed(int slug, int side) {
            return kindOf(state.get(slug, State.MATE + side)) == ENGINE;
        }

        boolean suits(int thing, int other) {
            if (stock.isAs(thing, AS_ENGINE)) {
                report.beginBody(18);
                return true;
            }
            if (kindOf(thing) == EMPTY) {
                report.beginBody(19);
                return !stock.isAs(other, AS_TANK) && wagonSuits(thing, other);
            }
            return wagonSuits(thing, other);
        }

        private boolean wagonSuits(int thing, int other) {
            report.beginBody(17);
            return !stock.isAs(other, AS_WAGON)
                    || !isBarred(state.get(thing, State.DANGER), state.get(other, State.DANGER));
        }

        private boolean isBarred(int a, int b) {
            return !isNot(a, 0, DANGERS - 1) && !isNot(b, 0, DANGERS - 1) && barred[DANGERS * a + b];
        }

        boolean setBarred(int a, int b, boolean is) {
            boolean was = isBarred(a, b);
            if (!isNot(a, 0, DANGERS - 1) && !isNot(b, 0, DANGERS - 1)) {
                barred[DANGERS * a + b] = is;
                barred[DANGERS * b + a] = is;
            }
            return was;
        }
    }

    /** A row of STACKS: which WAGONS stand on each, from below. */
    private static final class Stacks {
        static final int STACKS = 4, WAGONS = 10;

        private final int[] wagons = new int[STACKS * WAGONS];
        private final int[] heights = new int[STACKS];

        void empty() {
            Arrays.fill(heights, 0);
        }

        void become(Stacks other) {
            System.arraycopy(other.wagons, 0, wagons, 0, wagons.length);
            System.arraycopy(other.heights, 0, heights, 0, heights.length);
        }

        int height(int stack) {
            return stack >= 0 && stack < STACKS ? heights[stack] : 0;
        }

        int wagonAt(int stack, int i) {
            boolean is = stack >= 0 && stack < STACKS && i >= 0 && i < heights[stack];
            return is ? wagons[WAGONS * stack + i] : NONE;
        }

        void put(int stack, int wagon) {
            if (stack >= 0 && stack < STACKS && heights[stack] < WAGONS) {
                wagons[WAGONS * stack + heights[stack]] = wagon;
                heights[stack]++;
            }
        }

        /** A MOVE; whether there is ROOM was looked at before. */
        void shift(int from, int to, int n) {
            boolean reaches = to >= 0 && to < STACKS && to != from;
            if (!reaches || n < 1 || n > height(from) || n > WAGONS - heights[to]) {
                return;
            }
            heights[from] -= n;
            System.arraycopy(wagons, WAGONS * from + heights[from], wagons, WAGONS * to + heights[to], n);
            heights[to] += n;
        }

        /** The WAGONS that stand here, a bit for each. */
        int members() {
            int members = 0;
            for (int stack = 0; stack < STACKS; stack++) {
                for (int i = 0; i < heights[stack]; i++) {
                    members |= 1 << wagonAt(stack, i);
                }
            }
            return members;
        }

        /** On which STACK a WAGON stands; NONE. */
        int stackOf(int wagon) {
            for (int stack = 0; stack < STACKS; stack++) {
                if (placeOn(stack, wagon) != NONE) {
                    return stack;
                }
            }
            return NONE;
        }

        int placeOn(int stack, int wagon) {
            for (int i = 0; i < height(stack); i++) {
                if (wagonAt(stack, i) == wagon) {
                    return i;
                }
            }
            return NONE;
        }

        /** What a WAGON stands on: a WAGON, or behind all of these the ground of a STACK. */
        int below(int wagon) {
            int stack = stackOf(wagon);
            int i = placeOn(stack, wagon);
            return i > 0 ? wagonAt(stack, i - 1) : WAGONS + stack;
        }

        boolean isLike(Stacks other) {
            for (int stack = 0; stack < STACKS; stack++) {
                if (heights[stack] != other.height(stack)) {
                    return false;
                }
                for (int i = 0; i < heights[stack]; i++) {
                    if (wagonAt(stack, i) != other.wagonAt(stack, i)) {
                        return false;
                    }
                }
            }
            return true;
        }
    }

    /** START, GOAL, ROOM and THE PLAN. A MOVE is told by one number: 64 from + 16 to + n. */
    private static final class Plans {
        static final int MOST_MOVES = 128;
        private static final int UNMADE = 0, BY_LEAST = 1, BY_RULE = 2;

        private final Stacks start = new Stacks();
        private final Stacks goal = new Stacks();
        private final Stacks work = new Stacks();
        private final int[] rooms = new int[Stacks.STACKS];
        private final Potentials potentials = new Potentials();
        private final int[] moves = new int[MOST_MOVES];
        /** Which row of STACKS START is behind the first k MOVES, by its rank. */
        private final int[] ranks = new int[MOST_MOVES + 1];
        private int length = 0;
        private int way = UNMADE;

        Plans() {
            Arrays.fill(rooms, 5);
        }

        int setRoom(int stack, int n) {
            if (stack < 0 || stack >= Stacks.STACKS || start.height(stack) > n || goal.height(stack) > n) {
                return BAD;
            }
            int was = rooms[stack];
            rooms[stack] = n;
            return was;
        }

        private int roomLeft(int stack) {
            return stack < 0 || stack >= Stacks.STACKS ? 0 : rooms[stack] - work.height(stack);
        }

        int put(boolean toGoal, int stack, int wagon) {
            Stacks stacks = toGoal ? goal : start;
            if (stack < 0 || stack >= Stacks.STACKS || stacks.height(stack) >= rooms[stack]
                    || stacks.stackOf(wagon) != NONE) {
                return BAD;
            }
            stacks.put(stack, wagon);
            return stacks.height(stack);
        }

        int clear() {
            int had = Integer.bitCount(start.members());
            start.empty();
            goal.empty();
            drop();
            return had;
        }

        private void drop() {
            way = UNMADE;
            length = 0;
        }

        boolean haveSameWagons() {
            return start.members() == goal.members();
        }

        boolean isSmall() {
            return Integer.bitCount(start.members()) <= Potentials.MOST_WAGONS;
        }

        int countMoved() {
            int members = start.members();
            int sum = 0;
            for (int wagon = 0; wagon < Stacks.WAGONS; wagon++) {
                if ((members >> wagon & 1) == 1 && start.below(wagon) != goal.below(wagon)) {
                    sum++;
                }
            }
            return sum;
        }

        int makeLeast() {
            drop();
            potentials.spreadFrom(goal, rooms);
            int rank = potentials.rankOf(start);
            int least = potentials.of(rank);
            if (least == NONE || least > MOST_MOVES) {
                return NONE;
            }
            ranks[0] = rank;
            for (int k = 0; k < least; k++) {
                int entry = potentials.entryDown(ranks[k]);
                moves[k] = potentials.moveOf(entry);
                ranks[k + 1] = potentials.rankAfter(ranks[k], entry);
            }
            length = least;
            way = BY_LEAST;
            return length;
        }

        int makeByRule() {
            drop();
            work.become(start);
            for (int stack = 0; stack < Stacks.STACKS; stack++) {
                for (int i = 0; i < goal.height(stack); i++) {
                    if (!bring(goal.wagonAt(stack, i), stack, i)) {
                        drop();
                        return NONE;
                    }
                }
            }
            way = BY_RULE;
            return length;
        }

        /** Works BY RULE until a WAGON stands at place i of a STACK; false: there is no ROOM for it. */
        private boolean bring(int wagon, int stack, int i) {
            if (work.wagonAt(stack, i) == wagon) {
                return true;
            }
            if (!lower(stack, i, stack)) {
                return false;
            }
            int from = work.stackOf(wagon);
            return lower(from, work.placeOn(from, wagon) + 1, stack) && moveOne(from, stack);
        }

        /** Takes WAGONS from a STACK until it has no more than some, to STACKS but for it and a spared one. */
        private boolean lower(int stack, int height, int spared) {
            for (int left = work.height(stack) - height; left > 0; left--) {
                if (!moveOne(stack, roomiest(stack, spared))) {
                    return false;
                }
            }
            return true;
        }

        private int roomiest(int but, int alsoBut) {
            int best = NONE;
            for (int stack = 0; stack < Stacks.STACKS; stack++) {
                if (stack != but && stack != alsoBut && roomLeft(stack) > roomLeft(best)) {
                    best = stack;
                }
            }
            return best;
        }

        private boolean moveOne(int from, int to) {
            if (roomLeft(to) < 1 || length >= MOST_MOVES) {
                return false;
            }
            work.shift(from, to, 1);
            moves[length] = 64 * from + 16 * to + 1;
            length++;
            return true;
        }

        int moveAt(int k, int what) {
            if (k < 0 || k >= length || k >= MOST_MOVES) {
                return NONE;
            }
            switch (what) {
                case 0: return moves[k] >> 6;
                case 1: return moves[k] >> 4 & 3;
                default: return moves[k] & 15;
            }
        }

        int potentialAt(int k) {
            return hasPotential(k) ? potentials.of(ranks[k]) : NONE;
        }

        int setPotential(int k, int v) {
            int was = potentialAt(k);
            if (hasPotential(k)) {
                potentials.setTo(ranks[k], v);
            }
            return was;
        }

        private boolean hasPotential(int k) {
            return way == BY_LEAST && k >= 0 && k <= length && k <= MOST_MOVES;
        }

        boolean holds() {
            if (way == UNMADE || !leadsToGoal()) {
                return false;
            }
            return way == BY_RULE || potentials.of(potentials.rankOf(goal)) == 0
                    && potentials.of(potentials.rankOf(start)) == length && potentials.prove(rooms);
        }

        private boolean leadsToGoal() {
            work.become(start);
            for (int k = 0; k < length; k++) {
                int from = moveAt(k, 0);
                int to = moveAt(k, 1);
                int n = moveAt(k, 2);
                if (n > work.height(from) || n > roomLeft(to)) {
                    return false;
                }
                work.shift(from, to, n);
            }
            return work.isLike(goal);
        }
    }

    /**
     * POTENTIALS of all rows of STACKS of the WAGONS of a GOAL. A row is told by its rank, which is made of its
     * order (how the WAGONS follow one another, the STACKS being read from below, one behind the other) and its
     * shape (where each STACK ends there). What a MOVE does is known by the shape alone: it leads to another shape,
     * and two neighbouring blocks of the order change places. So the MOVES of all rows are listed by shapes.
     */
    private static final class Potentials {
        static final int MOST_WAGONS = 5;
        /** How many ways there are to choose the three borders of two neighbouring blocks. */
        private static final int SWAPS = 20;
        private static final int SHAPE_KEYS = 216;

        private final int[] numberOf = new int[Stacks.WAGONS];
        private final int[] sequence = new int[MOST_WAGONS];
        private final int[] swapped = new int[MOST_WAGONS];
        private final int[] digits = new int[MOST_WAGONS];
        private final int[] shapeOfKey = new int[SHAPE_KEYS];
        private int wagons = 0;
        private int orders = 0;
        private int shapes = 0;
        /** All rows from here on grow when they must: most objects never plan. */
        private int[] ends = new int[0];
        private int[] orderAfter = new int[0];
        private int[] firstEntries = new int[0];
        private int[] moves = new int[0];
        private int[] nextShapes = new int[0];
        private int[] swaps = new int[0];
        private int[] least = new int[0];
        private int[] queue = new int[0];

        int of(int rank) {
            return isRank(rank) ? least[rank] : NONE;
        }

        void setTo(int rank, int v) {
            if (isRank(rank)) {
                least[rank] = v;
            }
        }

        private boolean isRank(int rank) {
            return rank >= 0 && rank < orders * shapes;
        }

        /** NONE: other WAGONS stand there than those of the GOAL. */
        int rankOf(Stacks stacks) {
            int read = 0;
            int key = 0;
            for (int stack = 0; stack < Stacks.STACKS; stack++) {
                for (int i = 0; i < stacks.height(stack); i++) {
                    int wagon = stacks.wagonAt(stack, i);
                    if (wagon < 0 || wagon >= Stacks.WAGONS || numberOf[wagon] == NONE || read >= wagons) {
                        return NONE;
                    }
                    sequence[read] = numberOf[wagon];
                    read++;
                }
                key = keyWith(key, stack, read);
            }
            return read == wagons ? orderOf(sequence) * shapes + shapeOfKey[key] : NONE;
        }

        /** The key of a shape is where its STACKS end, in one number; the last one ends where all do. */
        private static int keyWith(int key, int stack, int end) {
            return stack < Stacks.STACKS - 1 ? (MOST_WAGONS + 1) * key + end : key;
        }

        /** The digits of an order: behind how many lesser ones each WAGON stands. */
        private int orderOf(int[] numbers) {
            int seen = 0;
            for (int i = 0; i < wagons; i++) {
                digits[numbers[i]] = Integer.bitCount(seen & (1 << numbers[i]) - 1);
                seen |= 1 << numbers[i];
            }
            int order = 0;
            for (int k = wagons - 1; k >= 0; k--) {
                order = order * (k + 1) + digits[k];
            }
            return order;
        }

        private void layOrder(int order) {
            int rest = order;
            for (int k = 0; k < wagons; k++) {
                int digit = rest % (k + 1);
                rest /= k + 1;
                System.arraycopy(sequence, digit, sequence, digit + 1, k - digit);
                sequence[digit] = k;
            }
        }

        /** A MOVE may be taken back by another one, so ways to the GOAL are found by going from it. */
        void spreadFrom(Stacks goal, int[] rooms) {
            takeWagons(goal.members());
            listEntries(rooms);
            Arrays.fill(least, NONE);
            int first = rankOf(goal);
            if (!isRank(first)) {
                return;
            }
            least[first] = 0;
            queue[0] = first;
            int tail = 1;
            for (int head = 0; head < tail && head < orders * shapes; head++) {
                int rank = queue[head];
                int shape = rank % shapes;
                for (int entry = firstEntries[shape]; entry < firstEntries[shape + 1]; entry++) {
                    int next = rankAfter(rank, entry);
                    if (isRank(next) && least[next] == NONE && tail < queue.length) {
                        least[next] = least[rank] + 1;
                        queue[tail] = next;
                        tail++;
                    }
                }
            }
        }

        private void takeWagons(int members) {
            int number = 0;
            for (int wagon = 0; wagon < Stacks.WAGONS; wagon++) {
                boolean is = (members >> wagon & 1) == 1 && number < MOST_WAGONS;
                numberOf[wagon] = is ? number : NONE;
                number += is ? 1 : 0;
            }
            if (shapes > 0 && number == wagons) {
                return;
            }
            wagons = number;
            shapes = (wagons + 1) * (wagons + 2) * (wagons + 3) / 6;
            orders = 1;
            for (int k = 2; k <= wagons; k++) {
                orders *= k;
            }
            growRows();
            listShapes();
            listOrders();
        }

        private void growRows() {
            if (least.length >= orders * shapes) {
                return;
            }
            least = new int[orders * shapes];
            queue = new int[orders * shapes];
            orderAfter = new int[orders * SWAPS];
            ends = new int[shapes * Stacks.STACKS];
            firstEntries = new int[shapes + 1];
            // Each WAGON may be the lowest of those that go, to three STACKS.
            int most = shapes * wagons * (Stacks.STACKS - 1);
            moves = new int[most];
            nextShapes = new int[most];
            swaps = new int[most];
        }

        private void listShapes() {
            int shape = 0;
            for (int a = 0; a <= wagons; a++) {
                for (int b = a; b <= wagons; b++) {
                    for (int c = b; c <= wagons; c++) {
                        ends[Stacks.STACKS * shape] = a;
                        ends[Stacks.STACKS * shape + 1] = b;
                        ends[Stacks.STACKS * shape + 2] = c;
                        ends[Stacks.STACKS * shape + 3] = wagons;
                        shapeOfKey[keyWith(keyWith(keyWith(0, 0, a), 1, b), 2, c)] = shape;
                        shape++;
                    }
                }
            }
        }

        private void listOrders() {
            for (int order = 0; order < orders; order++) {
                layOrder(order);
                for (int k = 2; k <= wagons; k++) {
                    for (int j = 1; j < k; j++) {
                        for (int i = 0; i < j; i++) {
                            System.arraycopy(sequence, 0, swapped, 0, wagons);
                            System.arraycopy(sequence, j, swapped, i, k - j);
                            System.arraycopy(sequence, i, swapped, i + k - j, j - i);
                            orderAfter[SWAPS * order + swapOf(i, j, k)] = orderOf(swapped);
                        }
                    }
                }
            }
        }

        /** The blocks i .. j - 1 and j .. k - 1 change places; NONE: one of them is empty. */
        private static int swapOf(int i, int j, int k) {
            return i < j && j < k ? k * (k - 1) * (k - 2) / 6 + j * (j - 1) / 2 + i : NONE;
        }

        /** All MOVES of each shape, the least from, then to, then n first. */
        private void listEntries(int[] rooms) {
            int entry = 0;
            for (int shape = 0; shape < shapes; shape++) {
                firstEntries[shape] = entry;
                for (int from = 0; from < Stacks.STACKS; from++) {
                    for (int to = 0; to < Stacks.STACKS; to++) {
                        int most = from == to ? 0 : Math.min(heightIn(shape, from), rooms[to] - heightIn(shape, to));
                        for (int n = 1; n <= most; n++) {
                            moves[entry] = 64 * from + 16 * to + n;
                            nextShapes[entry] = shapeAfter(shape, from, to, n);
                            swaps[entry] = swapBy(shape, from, to, n);
                            entry++;
                        }
                    }
                }
            }
            firstEntries[shapes] = entry;
        }

        private int endIn(int shape, int stack) {
            return stack < 0 ? 0 : ends[Stacks.STACKS * shape + stack];
        }

        private int heightIn(int shape, int stack) {
            return endIn(shape, stack) - endIn(shape, stack - 1);
        }

        private int shapeAfter(int shape, int from, int to, int n) {
            int key = 0;
            for (int stack = 0; stack < Stacks.STACKS; stack++) {
                int less = from <= stack && stack < to ? n : 0;
                int more = to <= stack && stack < from ? n : 0;
                key = keyWith(key, stack, endIn(shape, stack) - less + more);
            }
            return shapeOfKey[key];
        }

        private int swapBy(int shape, int from, int to, int n) {
            int end = endIn(shape, from);
            return from < to ? swapOf(end - n, end, endIn(shape, to)) : swapOf(endIn(shape, to), end - n, end);
        }

        int moveOf(int entry) {
            return entry < 0 || entry >= moves.length ? NONE : moves[entry];
        }

        /** The rank of the row to which a MOVE leads. */
        int rankAfter(int rank, int entry) {
            if (!isRank(rank) || entry < 0 || entry >= moves.length) {
                return NONE;
            }
            int order = rank / shapes;
            int swap = swaps[entry];
            return (swap == NONE ? order : orderAfter[SWAPS * order + swap]) * shapes + nextShapes[entry];
        }

        /** The first MOVE from a row that leads to a POTENTIAL that is 1 less. */
        int entryDown(int rank) {
            int shape = isRank(rank) ? rank % shapes : 0;
            for (int entry = firstEntries[shape]; entry < firstEntries[shape + 1]; entry++) {
                if (of(rankAfter(rank, entry)) == of(rank) - 1) {
                    return entry;
                }
            }
            return NONE;
        }

        /** Whether no MOVE leads from a POTENTIAL to none, or to one lower by more than 1. */
        boolean prove(int[] rooms) {
            listEntries(rooms);
            for (int rank = 0; rank < orders * shapes; rank++) {
                if (least[rank] != NONE && !isProved(rank)) {
                    return false;
                }
            }
            return true;
        }

        private boolean isProved(int rank) {
            int shape = rank % shapes;
            for (int entry = firstEntries[shape]; entry < firstEntries[shape + 1]; entry++) {
                int next = of(rankAfter(rank, entry));
                if (next == NONE || next < least[rank] - 1) {
                    return false;
                }
            }
            return true;
        }
    }
}
