import java.util.function.IntSupplier;

/** Promises 30 to 45: what is asked. */
final class AskingTest {
    private static final int BAD = SwitchYard.BAD, FOUND = SwitchYard.FOUND, NONE = SwitchYard.NONE;
    private static final int NOTHING = 1, NOT_SUCH = 2, BEYOND = 3, STORE = 4, ZERO = 6, HELD = 8, TAKEN = 9,
            CLOSED = 10;
    private static final int MAX = Integer.MAX_VALUE;
    private static final Due due = new Due();

    public static void main(String[] args) {
        rolled();
        at();
        thing();
        pointed();
        askWeightAndBrake();
        askOthers();
        meet();
        weighAndShare();
        consist();
        finding();
        eachCallTellsItsOwn();
        count();
        trace();
        undo();
        undoGivesAllBack();
        back();
        digest();
        log();
        due.end();
    }

    /** A TRACK of 9 with one of each KIND, by numbers, from PLACE 0 on: WAGONS with 4 AXLES and TARE 10. */
    private static SwitchYard kinds() {
        SwitchYard yard = new SwitchYard();
        yard.track(9);
        for (int kind = 0; kind <= 4; kind++) {
            due.is("wagon", yard.wagon(kind, 0, kind, 4, 10), kind);
        }
        due.is("engine", yard.engine(false, 0, 5, 30), 5);
        due.is("engine", yard.engine(true, 0, 6, 40), 6);
        return yard;
    }

    private static void rolled() {
        due.of("30 rolled");
        SwitchYard yard = kinds();
        due.found("rolled(-1)", yard, yard.rolled(-1), BEYOND);
        due.found("rolled(8)", yard, yard.rolled(8), BEYOND);
        due.is("rolled(7)", yard.rolled(7), NONE);
        due.is("finding(0)", yard.finding(0), 0);
        yard.store(6, 7);
        due.is("rolled(7)", yard.rolled(7), 6);
        yard.hold(6, 1);
        yard.undo();
        due.is("rolled(7), ROW is no STATE", yard.rolled(7), 6);
    }

    private static void at() {
        due.of("31 at");
        SwitchYard yard = kinds();
        due.found("at(-1, 0)", yard, yard.at(-1, 0), BEYOND);
        due.found("at(24, 0)", yard, yard.at(24, 0), BEYOND);
        due.found("at(1, -1)", yard, yard.at(1, -1), NOTHING);
        due.found("at(0, -1)", yard, yard.at(0, -1), BEYOND);
        due.found("at(0, 9)", yard, yard.at(0, 9), BEYOND);
        for (int place = 0; place < 9; place++) {
            due.is("at(0, " + place + ")", yard.at(0, place), place < 7 ? place : NONE);
        }
    }

    private static void thing() {
        due.of("32 thing");
        SwitchYard yard = kinds();
        yard.track(3);
        yard.wagon(0, 1, 2, 4, 20);
        yard.table(1, 7);
        due.is("what -1", yard.thing(99, -1), BAD);
        due.is("what 11", yard.thing(0, 11), BAD);
        due.found("thing(72, 0)", yard, yard.thing(72, 0), BEYOND);
        due.found("thing(-1, 0)", yard, yard.thing(-1, 0), BEYOND);
        due.found("thing(8, 0)", yard, yard.thing(8, 0), NOTHING);
        yard.couple(5, 1);
        yard.couple(5, 0);
        yard.hold(5, 17);
        yard.jam(5, 3);
        yard.test(5);
        int[] engine = {5, 0, 5, 1, 6, 4, 10, 17, 3, 0, 1};
        for (int what = 0; what <= 10; what++) {
            due.is("thing(5, " + what + ")", yard.thing(5, what), engine[what]);
        }
        yard.kick(7, 1);
        int[] wagon = {0, 1, 2, 1, NONE, NONE, 8, NONE, 0, 7, 0};
        for (int what = 0; what <= 10; what++) {
            due.is("thing(7, " + what + ")", yard.thing(7, what), wagon[what]);
        }
    }

    private static void pointed() {
        due.of("33 pointed");
        SwitchYard yard = kinds();
        yard.track(3);
        yard.track(3);
        yard.point(0, 1);
        yard.point(1, 0);
        yard.link(1, 0, 0, 1);
        yard.link(1, 0, 2, 0);
        yard.route();
        yard.route();
        yard.via(1, 1, 1, 3);
        yard.lock(1);
        due.is("what -1", yard.pointed(99, -1), BAD);
        due.is("what 5", yard.pointed(0, 5), BAD);
        due.found("pointed(40, 0)", yard, yard.pointed(40, 0), BEYOND);
        due.found("pointed(-1, 0)", yard, yard.pointed(-1, 0), BEYOND);
        due.found("pointed(2, 0)", yard, yard.pointed(2, 0), NOTHING);
        int[][] all = {{0, 1, 1, 0, NONE}, {1, 0, 2, 1, 1}};
        for (int what = 0; what <= 4; what++) {
            due.is("pointed(0, " + what + ")", yard.pointed(0, what), all[0][what]);
            due.is("pointed(1, " + what + ")", yard.pointed(1, what), all[1][what]);
        }
    }

    private static void askWeightAndBrake() {
        due.of("34 ask, WEIGHT");
        SwitchYard yard = kinds();
        int[] plain = {10, 10, 15, 10, 10, 110, 120};
        int[][] weights = {{1}, {2, 1}, {3, 2, 1}, {1}, {4}, {5}, {5}};
        for (int kind = 0; kind <= 6; kind++) {
            due.is("ask(" + kind + ", 0)", yard.ask(kind, 0), plain[kind]);
            due.trace(yard, weights[kind]);
        }
        int[] loaded = {37, 40, 45, 37, 10};
        for (int kind = 0; kind <= 4; kind++) {
            yard.load(kind, kind % 2, 3);
            yard.piece(kind, 0, kind % 2, 20);
            yard.piece(kind, 2, kind % 2, 7);
            due.is("ask(" + kind + ", 0), loaded", yard.ask(kind, 0), loaded[kind]);
            due.trace(yard, weights[kind]);
        }
        due.of("34 ask, BRAKE");
        int[] brakes = {16, 16, 18, 12, 4, 30, 35};
        int[][] bodies = {{6}, {6}, {7, 6}, {8}, {9}, {10}, {11, 10}};
        for (int kind = 0; kind <= 6; kind++) {
            due.is("ask(" + kind + ", 1)", yard.ask(kind, 1), brakes[kind]);
            due.trace(yard, bodies[kind]);
        }
        due.of("34 ask, HEAVY");
        int[] heavies = {78, 84, 94, 88, 24, 226, 244};
        int[][] heavyBodies = {{12, 1}, {12, 2, 1}, {12, 3, 2, 1}, {13, 12, 1}, {12, 4}, {12, 5}, {12, 5}};
        for (int kind = 0; kind <= 6; kind++) {
            due.is("ask(" + kind + ", 2)", yard.ask(kind, 2), heavies[kind]);
            due.trace(yard, heavyBodies[kind]);
        }
        due.of("34 ask, PER AXLE");
        int[] perAxles = {9, 10, 11, 9, 2, 18, 30};
        int[][] axleBodies = {{14, 1}, {14, 2, 1}, {14, 3, 2, 1}, {14, 1}, {14, 4}, {14, 5}, {14, 5}};
        for (int kind = 0; kind <= 6; kind++) {
            due.is("ask(" + kind + ", 3)", yard.ask(kind, 3), perAxles[kind]);
            due.trace(yard, axleBodies[kind]);
        }
        due.is("wagon without AXLES", yard.wagon(2, 0, 8, 0, 10), 7);
        due.found("ask(7, 3)", yard, yard.ask(7, 3), ZERO);
        due.trace(yard, 14, 3, 2, 1);
        due.is("ask(7, 1)", yard.ask(7, 1), 2);
        due.is("ask(7, 2)", yard.ask(7, 2), 30);
    }

    private static void askOthers() {
        due.of("34 ask, PULLS");
        SwitchYard yard = kinds();
        yard.engine(true, 0, 7, 50);
        due.is("ask(5, 4)", yard.ask(5, 4), 30);
        due.trace(yard, 15);
        due.is("ask(6, 4), alone", yard.ask(6, 4), 0);
        due.trace(yard, 16);
        due.is("couple(6, 0)", yard.couple(6, 0), 7);
        due.is("ask(6, 4), a SLUG at SIDE 0", yard.ask(6, 4), 0);
        due.is("couple(6, 1)", yard.couple(6, 1), 5);
        due.is("ask(6, 4), an ENGINE at SIDE 1", yard.ask(6, 4), 40);
        due.trace(yard, 16, 15);
        due.is("ask(7, 4), a SLUG at SIDE 1", yard.ask(7, 4), 0);
        yard.engine(false, 0, 8, 5);
        due.is("couple(8, 1)", yard.couple(8, 1), 7);
        due.is("ask(7, 4), an ENGINE at SIDE 0", yard.ask(7, 4), 50);
        due.found("ask(4, 4)", yard, yard.ask(4, 4), NOT_SUCH);
        due.of("34 ask, DANGER");
        yard.danger(4, 9);
        due.is("ask(4, 5)", yard.ask(4, 5), 9);
        due.trace(yard);
        due.found("ask(5, 5)", yard, yard.ask(5, 5), NOT_SUCH);
        due.of("34 ask, pieces");
        for (int kind = 0; kind <= 3; kind++) {
            due.found("ask(" + kind + ", 6)", yard, yard.ask(kind, 6), NOTHING);
            yard.load(kind, 0, kind);
            due.is("ask(" + kind + ", 6)", yard.ask(kind, 6), kind);
        }
        yard.load(4, 0, 3);
        due.found("ask(4, 6), no FLAT", yard, yard.ask(4, 6), NOT_SUCH);
        due.found("ask(5, 6)", yard, yard.ask(5, 6), NOT_SUCH);
        due.of("34 ask, a COLD");
        due.is("ask(2, 7)", yard.ask(2, 7), 4);
        for (int kind : new int[] {0, 1, 3, 4, 5, 6}) {
            due.found("ask(" + kind + ", 7)", yard, yard.ask(kind, 7), NOT_SUCH);
        }
        due.of("34 ask, not as told");
        due.is("ask(99, 8)", yard.ask(99, 8), BAD);
        due.is("ask(0, -1)", yard.ask(0, -1), BAD);
        for (int what = 0; what <= 7; what++) {
            due.found("ask(72, what)", yard, yard.ask(72, what), BEYOND);
            due.found("ask(-1, what)", yard, yard.ask(-1, what), BEYOND);
            due.found("ask(9, what)", yard, yard.ask(9, what), NOTHING);
        }
    }

    private static void meet() {
        due.of("35 meet");
        SwitchYard yard = kinds();
        for (int i = 3; i < 6; i++) {
            yard.couple(i, 0);
        }
        due.is("meet(3, 0, -1)", yard.meet(3, 0, -1), BAD);
        due.is("meet(99, 9, 101)", yard.meet(99, 9, 101), BAD);
        due.found("meet(72, 9, 0)", yard, yard.meet(72, 9, 0), BEYOND);
        due.found("meet(7, 9, 0)", yard, yard.meet(7, 9, 0), NOTHING);
        due.found("meet(3, 2, 0)", yard, yard.meet(3, 2, 0), BEYOND);
        for (int n = 0; n <= 3; n++) {
            due.is("meet(3, 0, " + n + ")", yard.meet(3, 0, n), 3 + n);
            due.is("meet(6, 1, " + n + ")", yard.meet(6, 1, n), 6 - n);
        }
        due.is("meet(0, 1, 0)", yard.meet(0, 1, 0), 0);
        due.found("meet(3, 0, 4)", yard, yard.meet(3, 0, 4), NOTHING);
        due.found("meet(3, 1, 1)", yard, yard.meet(3, 1, 1), NOTHING);
        due.found("meet(3, 0, 100)", yard, yard.meet(3, 0, 100), NOTHING);
        due.of("35 meet, where two look at one another");
        SwitchYard turned = new SwitchYard();
        turned.track(2);
        turned.track(2);
        turned.link(0, 1, 1, 1);
        turned.wagon(0, 0, 0, 4, 20);
        turned.wagon(0, 0, 1, 4, 20);
        turned.wagon(0, 1, 1, 4, 20);
        turned.wagon(0, 1, 0, 4, 20);
        turned.couple(0, 0);
        turned.couple(1, 0);
        turned.couple(2, 1);
        for (int n = 0; n <= 3; n++) {
            due.is("meet(0, 0, " + n + ")", turned.meet(0, 0, n), n);
            due.is("meet(3, 0, " + n + ")", turned.meet(3, 0, n), 3 - n);
        }
        for (int k = 0; k <= 3; k++) {
            due.is("consist(1, " + k + ")", turned.consist(1, k), 3 - k);
            due.is("consist(2, " + k + ")", turned.consist(2, k), k);
        }
    }

    private static void weighAndShare() {
        due.of("36 weigh");
        SwitchYard yard = kinds();
        due.found("weigh(72)", yard, yard.weigh(72), BEYOND);
        due.found("weigh(7)", yard, yard.weigh(7), NOTHING);
        for (int i : new int[] {0, 1, 2, 4, 5}) {
            yard.couple(i, 0);
        }
        due.is("weigh(0)", yard.weigh(0), 45);
        due.trace(yard, 1, 3, 2, 1, 2, 1, 1);
        due.is("weigh(3)", yard.weigh(3), 45);
        due.is("weigh(5)", yard.weigh(5), 240);
        due.trace(yard, 5, 5, 4);
        due.of("37 share");
        due.found("share(72)", yard, yard.share(72), BEYOND);
        due.found("share(7)", yard, yard.share(7), NOTHING);
        due.is("share(1)", yard.share(1), 100 * 62 / 16);
        due.trace(yard, 8, 7, 6, 6, 6);
        due.is("share(4)", yard.share(4), 100 * 69 / 14);
        due.trace(yard, 11, 10, 10, 9);
        yard.wagon(2, 0, 8, 0, 10);
        due.found("share(7)", yard, yard.share(7), ZERO);
        due.trace(yard, 7, 6);
        due.is("weigh(7)", yard.weigh(7), 15);
        yard.wagon(0, 0, 7, 8, 10);
        due.is("couple(8, 0)", yard.couple(8, 0), 7);
        due.is("share(7), not all are without", yard.share(7), 100 * 34 / 8);
    }

    private static void consist() {
        due.of("38 consist");
        SwitchYard yard = kinds();
        for (int i = 3; i < 6; i++) {
            yard.couple(i, 0);
        }
        due.is("consist(99, -1)", yard.consist(99, -1), BAD);
        due.found("consist(72, 0)", yard, yard.consist(72, 0), BEYOND);
        due.found("consist(7, 0)", yard, yard.consist(7, 0), NOTHING);
        for (int thing = 3; thing <= 6; thing++) {
            for (int k = 0; k < 4; k++) {
                due.is("consist(" + thing + ", " + k + ")", yard.consist(thing, k), 6 - k);
            }
            due.is("consist(" + thing + ", 4)", yard.consist(thing, 4), NONE);
        }
        due.is("consist(0, 0)", yard.consist(0, 0), 0);
        due.is("consist(0, 1)", yard.consist(0, 1), NONE);
        due.is("consist(0, MAX)", yard.consist(0, MAX), NONE);
    }

    private static void finding() {
        due.of("39 finding");
        SwitchYard yard = kinds();
        due.is("finding(-1)", yard.finding(-1), BAD);
        due.is("finding(4)", yard.finding(4), BAD);
        yard.hold(5, 8);
        due.found("raise(5)", yard, yard.raise(5), HELD);
        due.is("finding(1)", yard.finding(1), 8);
        due.is("pull(5, 0, 0)", yard.pull(5, 0, 0), BAD);
        due.is("finding(1), BAD is none of those", yard.finding(1), 8);
        due.is("step(1), may not be FOUND", yard.step(1), 0);
        yard.bar(0, 0, true);
        yard.table(0, 0);
        yard.route();
        yard.undo();
        yard.back();
        yard.log(0, 0);
        yard.count(1);
        yard.trace(0);
        yard.digest();
        yard.wipe();
        yard.plan(0);
        due.is("finding(0), none of these may be", yard.finding(0), HELD);
        due.is("finding(1)", yard.finding(1), 8);
        due.is("at(0, 0)", yard.at(0, 0), 0);
        due.is("finding(0)", yard.finding(0), 0);
        due.is("finding(1)", yard.finding(1), NONE);
        due.is("pull(6, 0, 1)", yard.pull(6, 0, 1), FOUND);
        due.found("pull(5, 0, 200)", yard, yard.pull(5, 0, 200), TAKEN);
        due.is("finding(2)", yard.finding(2), 0);
        due.is("finding(3)", yard.finding(3), NONE);
    }

    /** Each call that may be FOUND, where it is not, and no BODY begins in it. */
    private static void eachCallTellsItsOwn() {
        due.of("39, 41 each call tells its own");
        SwitchYard yard = kinds();
        yard.track(4);
        yard.engine(false, 1, 1, 90);
        yard.point(0, 0);
        yard.route();
        yard.hold(7, 9);
        yard.jam(7, 1);
        IntSupplier[] calls = {() -> yard.track(2), () -> yard.point(1, 0), () -> yard.link(1, 0, 0, 1),
            () -> yard.exit(0, 0, true), () -> yard.wagon(0, 2, 0, 4, 20), () -> yard.engine(true, 2, 1, 20),
            () -> yard.via(0, 1, 0, 2), () -> yard.load(0, 0, 2), () -> yard.piece(0, 1, 0, 5),
            () -> yard.danger(0, 1), () -> yard.hold(0, 1), () -> yard.jam(0, 1), () -> yard.turn(1, 0),
            () -> yard.lock(0), () -> yard.free(0), () -> yard.roll(0, 7, 1), () -> yard.store(5, 1),
            () -> yard.rolled(1), () -> yard.at(0, 0), () -> yard.thing(0, 1), () -> yard.pointed(1, 4),
            () -> yard.meet(0, 1, 0), () -> yard.consist(0, 3)};
        int[] answers = {2, 1, 1, 0, 8, 9, 1, 2, 1, 0, NONE, 0, 0, 1, 1, 1, 1, 5, 0, 0, NONE, 0, NONE};
        due.found("pull(7, 0, 1)", yard, yard.pull(7, 0, 1), HELD);
        due.found("raise(0)", yard, yard.raise(0), 7);
        due.is("finding(1) behind raise(0)", yard.finding(1), NONE);
        due.trace(yard);
        for (int i = 0; i < calls.length; i++) {
            due.found("pull(7, 0, 1) ahead of call " + i, yard, yard.pull(7, 0, 1), HELD);
            due.is("finding(1) ahead of call " + i, yard.finding(1), 9);
            due.trace(yard, 5, 15);
            due.is("call " + i, calls[i].getAsInt(), answers[i]);
            due.is("finding(0) behind call " + i, yard.finding(0), 0);
            due.is("finding(1) behind call " + i, yard.finding(1), NONE);
            due.trace(yard);
        }
    }

    private static void count() {
        due.of("40 count");
        SwitchYard yard = kinds();
        due.is("count(18)", yard.count(18), BAD);
        due.is("count(-10)", yard.count(-10), BAD);
        due.is("count(MIN)", yard.count(Integer.MIN_VALUE), BAD);
        yard.track(3);
        yard.exit(1, 0, true);
        yard.engine(false, 1, 0, 9);
        yard.point(0, 0);
        yard.route();
        yard.route();
        yard.table(0, 5);
        yard.test(7);
        due.is("leave(7)", yard.leave(7), 1);
        due.is("kick(0, 0)", yard.kick(0, 0), 5);
        due.is("kick(1, 0)", yard.kick(1, 0), 5);
        due.is("kick(4, 0)", yard.kick(4, 0), 5);
        due.is("step(1)", yard.step(1), 1);
        due.is("count(-4)", yard.count(-4), 2);
        due.is("undo()", yard.undo(), 1);
        int[] all = {2, 8, 7, 3, 0, 8, 1, 2, 5, 1};
        for (int k = 0; k <= 9; k++) {
            due.is("count(" + -k + ")", yard.count(-k), all[k]);
        }
        due.of("40 count of FINDINGS");
        for (int i = 0; i < 3; i++) {
            yard.at(30, 0);
            yard.danger(5, 0);
        }
        yard.store(0, 0);
        due.is("count(3)", yard.count(BEYOND), 3);
        due.is("count(2)", yard.count(NOT_SUCH), 3);
        due.is("count(4)", yard.count(STORE), 1);
        yard.undo();
        yard.undo();
        due.is("count(2), ever", yard.count(NOT_SUCH), 3);
        due.is("count(1)", yard.count(NOTHING), 0);
        yard.at(9, 0);
        due.is("count(1)", yard.count(NOTHING), 1);
        due.is("count(17)", yard.count(17), 0);
        due.found("leave(5)", yard, yard.leave(5), 17);
        due.is("count(17)", yard.count(17), 1);
    }

    private static void trace() {
        due.of("41 trace");
        SwitchYard yard = kinds();
        due.is("trace(-1)", yard.trace(-1), BAD);
        due.is("ask(2, 2)", yard.ask(2, 2), 34);
        due.trace(yard, 12, 3, 2, 1);
        due.is("ask(2, 9)", yard.ask(2, 9), BAD);
        yard.step(1);
        yard.undo();
        due.trace(yard, 12, 3, 2, 1);
        due.is("trace(MAX)", yard.trace(MAX), NONE);
        due.is("at(0, 0)", yard.at(0, 0), 0);
        due.trace(yard);
        due.is("ask(5, 0)", yard.ask(5, 0), 110);
        due.is("thing(99, 0)", yard.thing(99, 0), FOUND);
        due.trace(yard);
    }

    private static void undo() {
        due.of("42 undo");
        SwitchYard yard = kinds();
        due.is("undo()", yard.undo(), 0);
        for (int i = 1; i <= 10; i++) {
            yard.hold(0, i);
            due.is("count(-8)", yard.count(-8), Math.min(i, 8));
        }
        for (int i = 9; i >= 2; i--) {
            due.is("undo()", yard.undo(), 1);
            due.is("thing(0, 7)", yard.thing(0, 7), i);
            due.is("count(-9)", yard.count(-9), 10 - i);
        }
        due.is("undo(), the latest 8 alone", yard.undo(), 0);
        due.is("thing(0, 7)", yard.thing(0, 7), 2);
        due.is("count(-9)", yard.count(-9), 8);
        due.is("back()", yard.back(), 1);
        due.is("back()", yard.back(), 1);
        due.is("hold(0, 50), what was undone is gone", yard.hold(0, 50), 4);
        due.is("count(-8)", yard.count(-8), 3);
        due.is("count(-9)", yard.count(-9), 0);
        due.is("back()", yard.back(), 0);
        due.is("undo()", yard.undo(), 1);
        due.is("thing(0, 7)", yard.thing(0, 7), 4);
        due.is("undo()", yard.undo(), 1);
        due.is("thing(0, 7)", yard.thing(0, 7), 3);
        due.of("42 undo, also of what was FOUND");
        long before = yard.digest();
        due.is("hold(99, 1)", yard.hold(99, 1), FOUND);
        due.is("hold(0, 1000)", yard.hold(0, 1000), BAD);
        due.is("count(-8), BAD does not keep", yard.count(-8), 2);
        due.is("undo()", yard.undo(), 1);
        due.is("digest()", yard.digest(), before);
        due.is("finding(0), not undone", yard.count(BEYOND), 1);
    }

    private static void undoGivesAllBack() {
        due.of("42 undo, each ACT");
        SwitchYard yard = kinds();
        yard.track(3);
        yard.track(3);
        yard.exit(1, 0, true);
        yard.engine(false, 1, 0, 9);
        yard.point(2, 0);
        yard.link(2, 0, 1, 0);
        yard.link(2, 0, 1, 1);
        yard.route();
        yard.via(0, 0, 1, 1);
        yard.table(0, 5);
        yard.test(7);
        yard.couple(5, 0);
        yard.kick(0, 1);
        yard.kick(1, 1);
        long first = yard.digest();
        int serial = yard.thing(5, 6);
        Runnable[] acts = {() -> yard.danger(0, 3), () -> yard.hold(0, 3), () -> yard.jam(0, 3),
            () -> yard.turn(0, 1), () -> yard.lock(0), () -> yard.couple(5, 1), () -> yard.part(5, 0),
            () -> yard.pull(5, 0, 1), () -> yard.kick(2, 0), () -> yard.step(1), () -> yard.test(5),
            () -> yard.leave(7)};
        for (int i = 0; i < acts.length; i++) {
            acts[i].run();
            long then = yard.digest();
            due.is("act " + i + " changed something", then == first ? 1 : 0, 0);
            due.is("undo() of act " + i, yard.undo(), 1);
            due.is("digest() behind undo() of act " + i, yard.digest(), first);
            due.is("SERIAL", yard.thing(5, 6), serial);
            due.is("count(-3)", yard.count(-3), 2);
            due.is("count(-4)", yard.count(-4), 0);
            due.is("count(-2)", yard.count(-2), 8);
            due.is("back() of act " + i, yard.back(), 1);
            due.is("digest() behind back() of act " + i, yard.digest(), then);
            due.is("undo() of act " + i, yard.undo(), 1);
            due.is("digest() behind undo() of act " + i, yard.digest(), first);
        }
        due.is("free(0)", yard.free(0), 0);
        due.is("lock(0)", yard.lock(0), 1);
        long locked = yard.digest();
        due.is("free(0)", yard.free(0), 1);
        due.is("undo()", yard.undo(), 1);
        due.is("digest()", yard.digest(), locked);
        due.is("SERIALS go on", yard.count(-5), 12);
        due.is("couple(5, 1)", yard.couple(5, 1), 4);
        due.is("SERIAL", yard.thing(4, 6), 13);
    }

    private static void back() {
        due.of("43 back");
        SwitchYard yard = kinds();
        due.is("back()", yard.back(), 0);
        for (int i = 1; i <= 3; i++) {
            yard.hold(0, i);
        }
        due.is("back()", yard.back(), 0);
        yard.undo();
        yard.undo();
        yard.undo();
        due.is("thing(0, 7)", yard.thing(0, 7), NONE);
        for (int i = 1; i <= 3; i++) {
            due.is("back()", yard.back(), 1);
            due.is("thing(0, 7)", yard.thing(0, 7), i);
            due.is("count(-8)", yard.count(-8), i);
            due.is("count(-9)", yard.count(-9), 3 - i);
        }
        due.is("back()", yard.back(), 0);
        due.is("undo()", yard.undo(), 1);
        due.is("thing(0, 7)", yard.thing(0, 7), 2);
        yard.load(0, 0, 1);
        yard.raise(0);
        yard.store(5, 0);
        yard.jam(0, 99);
        yard.meet(0, 0, 1);
        due.is("back(), none of these keeps", yard.back(), 1);
        due.is("undo()", yard.undo(), 1);
        due.is("jam(99, 1)", yard.jam(99, 1), FOUND);
        due.is("back(), one that was FOUND keeps", yard.back(), 0);
        due.is("undo()", yard.undo(), 1);
        due.is("step(1)", yard.step(1), 0);
        due.is("back(), step() keeps", yard.back(), 0);
    }

    private static long folded(int... numbers) {
        long d = 7;
        for (int number : numbers) {
            d = 31 * d + number;
        }
        return d;
    }

    private static void digest() {
        due.of("44 digest");
        SwitchYard yard = new SwitchYard();
        yard.track(4);
        yard.track(4);
        due.is("digest()", yard.digest(), 7);
        yard.wagon(0, 1, 2, 4, 20);
        due.is("digest()", yard.digest(), folded(26, 1, NONE, NONE, NONE, 0, 0, 0, 0));
        yard.engine(false, 1, 3, 20);
        yard.point(0, 1);
        yard.link(0, 1, 1, 0);
        yard.link(0, 1, 0, 0);
        yard.table(1, 6);
        yard.route();
        yard.via(0, 0, 1, 1);
        yard.danger(0, 4);
        yard.kick(0, 1);
        yard.hold(1, 12);
        yard.jam(1, 2);
        yard.test(1);
        due.is("digest()", yard.digest(),
                folded(26, 1, NONE, NONE, NONE, 0, 6, 4, 0, 27, 1, NONE, NONE, 12, 2, 0, 0, 1, 0, NONE));
        yard.lock(0);
        due.is("digest()", yard.digest(),
                folded(26, 1, NONE, NONE, NONE, 0, 6, 4, 0, 27, 1, NONE, NONE, 12, 2, 0, 0, 1, 1, 0));
        yard.exit(1, 1, true);
        due.is("leave(1)", yard.leave(1), 1);
        due.is("digest()", yard.digest(), folded(26, 1, NONE, NONE, NONE, 0, 6, 4, 0, -1, 1, 0));
        yard.wagon(0, 1, 3, 4, 20);
        yard.step(1);
        yard.step(6);
        due.is("couple(2, 1)", yard.couple(2, 1), FOUND);
        yard.undo();
        yard.undo();
        yard.undo();
        due.is("digest()", yard.digest(),
                folded(26, 1, NONE, NONE, NONE, 0, 6, 4, 0, -1, 27, 1, NONE, NONE, NONE, 0, 0, 0, 0, 1, 0));
        due.of("44 digest of couplings");
        SwitchYard three = new SwitchYard();
        three.track(3);
        for (int i = 0; i < 3; i++) {
            three.wagon(0, 0, i, 4, 20);
        }
        three.couple(1, 0);
        three.couple(1, 1);
        due.is("digest()", three.digest(), folded(0, 1, 1, NONE, NONE, 0, 0, 0, 0, 1, 1, 2, 0, NONE, 0, 0, 0, 0,
                2, 1, NONE, 1, NONE, 0, 0, 0, 0));
        due.of("44 digest goes round");
        SwitchYard many = kinds();
        int[] numbers = new int[7 * 9];
        for (int i = 0; i < 7; i++) {
            int[] of = {i, 1, NONE, NONE, NONE, 0, 0, 0, 0};
            System.arraycopy(of, 0, numbers, 9 * i, 9);
        }
        due.is("digest()", many.digest(), folded(numbers));
    }

    private static void log() {
        due.of("45 log");
        SwitchYard yard = kinds();
        due.is("log(-1, 0)", yard.log(-1, 0), BAD);
        due.is("log(0, -1)", yard.log(0, -1), BAD);
        due.is("log(0, 2)", yard.log(0, 2), BAD);
        due.is("log(0, 1)", yard.log(0, 1), NONE);
        yard.route();
        yard.point(0, 0);
        int[] answers = {yard.danger(0, 3), yard.hold(0, 3), yard.jam(0, 3), yard.turn(0, 0), yard.lock(0),
            yard.free(0), yard.couple(4, 0), yard.part(4, 0), yard.pull(5, 1, 1), yard.kick(0, 1), yard.step(1),
            yard.test(5), yard.leave(5)};
        int[] want = {0, NONE, 0, FOUND, 0, 0, 5, 5, FOUND, 0, 0, 1, FOUND};
        yard.hold(0, -1);
        yard.raise(0);
        yard.at(0, 0);
        for (int act = 0; act <= 12; act++) {
            due.is("act " + act, answers[act], want[act]);
            due.is("log(" + (12 - act) + ", 0)", yard.log(12 - act, 0), act);
            due.is("log(" + (12 - act) + ", 1)", yard.log(12 - act, 1), want[act]);
        }
        due.is("log(13, 0)", yard.log(13, 0), NONE);
        due.is("undo()", yard.undo(), 1);
        due.is("log(0, 0), what was undone stays", yard.log(0, 0), 12);
        yard.track(1);
        due.is("log(0, 0), making forgets it not", yard.log(0, 0), 12);
        for (int i = 0; i < 45; i++) {
            yard.jam(0, i);
        }
        due.is("log(0, 1)", yard.log(0, 1), 43);
        due.is("log(39, 1)", yard.log(39, 1), 4);
        due.is("log(39, 0)", yard.log(39, 0), 2);
        due.is("log(40, 0), the latest 40 alone", yard.log(40, 0), NONE);
        due.is("log(MAX, 0)", yard.log(MAX, 0), NONE);
    }
}
