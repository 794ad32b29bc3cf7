/** Promises 1 to 13: what is made. */
final class MakingTest {
    private static final int BAD = SwitchYard.BAD, FOUND = SwitchYard.FOUND, FULL = SwitchYard.FULL,
            NONE = SwitchYard.NONE;
    private static final int NOTHING = 1, NOT_SUCH = 2, BEYOND = 3, SIZE = 5, TAKEN = 9, LOCKED = 11;
    private static final int MIN = Integer.MIN_VALUE, MAX = Integer.MAX_VALUE;
    private static final Due due = new Due();

    public static void main(String[] args) {
        newObject();
        track();
        point();
        link();
        exit();
        wagon();
        engine();
        fullOfThings();
        bar();
        table();
        route();
        via();
        load();
        piece();
        makingForgets();
        refusedMakingForgetsNothing();
        due.end();
    }

    /** A yard with some TRACKS of 4 PLACES. */
    private static SwitchYard yard(int tracks) {
        SwitchYard yard = new SwitchYard();
        for (int i = 0; i < tracks; i++) {
            due.is("track(4)", yard.track(4), i);
        }
        return yard;
    }

    private static void newObject() {
        due.of("1 a new object");
        SwitchYard other = yard(2);
        other.wagon(0, 0, 0, 4, 20);
        other.hold(0, 3);
        other.at(9, 9);
        SwitchYard yard = new SwitchYard();
        for (int k = -9; k <= 17; k++) {
            due.is("count(" + k + ")", yard.count(k), 0);
        }
        due.is("finding(0)", yard.finding(0), 0);
        due.is("finding(1)", yard.finding(1), NONE);
        due.is("finding(2)", yard.finding(2), 0);
        due.is("finding(3)", yard.finding(3), NONE);
        due.trace(yard);
        due.is("digest()", yard.digest(), 7);
        due.is("log(0, 0)", yard.log(0, 0), NONE);
        due.is("undo()", yard.undo(), 0);
        due.is("back()", yard.back(), 0);
        for (int i = 0; i < 8; i++) {
            due.is("rolled(" + i + ")", yard.rolled(i), NONE);
            due.is("table(" + i + ", 0)", yard.table(i, 0), 0);
        }
        due.is("BAD", SwitchYard.BAD, -1);
        due.is("FOUND", SwitchYard.FOUND, -2);
        due.is("FULL", SwitchYard.FULL, -3);
        due.is("NONE", SwitchYard.NONE, -4);
    }

    private static void track() {
        due.of("2 track");
        SwitchYard yard = new SwitchYard();
        due.is("track(0)", yard.track(0), BAD);
        due.is("track(25)", yard.track(25), BAD);
        due.is("track(MAX)", yard.track(MAX), BAD);
        due.found("track(-1)", yard, yard.track(-1), SIZE);
        due.found("track(MIN)", yard, yard.track(MIN), SIZE);
        due.is("track(25)", yard.track(25), BAD);
        due.is("finding(0) is as it was", yard.finding(0), SIZE);
        due.is("track(1)", yard.track(1), 0);
        due.is("finding(0)", yard.finding(0), 0);
        due.is("track(24)", yard.track(24), 1);
        due.is("at(0, 0)", yard.at(0, 0), NONE);
        due.found("at(0, 1)", yard, yard.at(0, 1), BEYOND);
        due.is("at(1, 23)", yard.at(1, 23), NONE);
        for (int i = 2; i < 24; i++) {
            due.is("track(3)", yard.track(3), i);
        }
        due.found("at(0, 1)", yard, yard.at(0, 1), BEYOND);
        due.is("track(3)", yard.track(3), FULL);
        due.is("track(-3), FULL comes first", yard.track(-3), FULL);
        due.is("track(0), BAD comes first", yard.track(0), BAD);
        due.is("finding(0) is as it was", yard.finding(0), BEYOND);
        due.is("count(0)", yard.count(0), 24);
        due.is("count(5)", yard.count(SIZE), 2);
    }

    private static void point() {
        due.of("3 point");
        SwitchYard yard = yard(20);
        due.is("point(0, -1)", yard.point(0, -1), BAD);
        due.is("point(0, 2)", yard.point(0, 2), BAD);
        due.found("point(-1, 0)", yard, yard.point(-1, 0), BEYOND);
        due.found("point(24, 0)", yard, yard.point(24, 0), BEYOND);
        due.found("point(23, 0)", yard, yard.point(23, 0), NOTHING);
        due.is("link(0, 1, 1, 0)", yard.link(0, 1, 1, 0), 1);
        due.is("point(0, 1)", yard.point(0, 1), 0);
        due.found("point(0, 1) again", yard, yard.point(0, 1), TAKEN);
        due.is("pointed(0, 2), the LINK that was there", yard.pointed(0, 2), 1);
        due.is("pointed(0, 3)", yard.pointed(0, 3), 0);
        due.is("pointed(0, 4)", yard.pointed(0, 4), NONE);
        due.is("point(0, 0)", yard.point(0, 0), 1);
        for (int i = 2; i < 40; i++) {
            due.is("point", yard.point(i / 2, i % 2), i);
        }
        due.is("count(-6)", yard.count(-6), 40);
        due.found("at(30, 0)", yard, yard.at(30, 0), BEYOND);
        due.is("point(0, 0), FULL comes first", yard.point(0, 0), FULL);
        due.is("point(99, 0), FULL comes first", yard.point(99, 0), FULL);
        due.is("point(0, 7), BAD comes first", yard.point(0, 7), BAD);
        due.is("finding(0) is as it was", yard.finding(0), BEYOND);
        due.is("pointed(39, 0)", yard.pointed(39, 0), 19);
        due.is("pointed(39, 1)", yard.pointed(39, 1), 1);
    }

    private static void link() {
        due.of("4 link");
        SwitchYard yard = yard(6);
        due.is("link(0, 2, 1, 0)", yard.link(0, 2, 1, 0), BAD);
        due.is("link(0, 0, 1, -1)", yard.link(0, 0, 1, -1), BAD);
        due.is("link(99, 0, 1, 2), BAD comes first", yard.link(99, 0, 1, 2), BAD);
        due.found("link(6, 0, 24, 0)", yard, yard.link(6, 0, 24, 0), NOTHING);
        due.found("link(24, 0, 6, 0)", yard, yard.link(24, 0, 6, 0), BEYOND);
        due.found("link(0, 0, -1, 0)", yard, yard.link(0, 0, -1, 0), BEYOND);
        due.found("link(0, 0, 6, 0)", yard, yard.link(0, 0, 6, 0), NOTHING);
        due.found("link(0, 0, 0, 0)", yard, yard.link(0, 0, 0, 0), TAKEN);
        due.is("link(0, 1, 1, 0)", yard.link(0, 1, 1, 0), 1);
        due.found("link(0, 1, 1, 0), joined", yard, yard.link(0, 1, 1, 0), TAKEN);
        due.found("link(1, 0, 0, 1), joined", yard, yard.link(1, 0, 0, 1), TAKEN);
        due.found("link(0, 1, 2, 0), no POINT", yard, yard.link(0, 1, 2, 0), TAKEN);
        due.found("link(2, 0, 0, 1), no POINT", yard, yard.link(2, 0, 0, 1), TAKEN);
        due.is("point(0, 1)", yard.point(0, 1), 0);
        due.found("link(1, 0, 0, 1), joined still", yard, yard.link(1, 0, 0, 1), TAKEN);
        due.is("link(2, 0, 0, 1)", yard.link(2, 0, 0, 1), 1);
        due.is("link(0, 1, 0, 0)", yard.link(0, 1, 0, 0), 1);
        due.is("pointed(0, 2)", yard.pointed(0, 2), 3);
        due.found("link(0, 1, 3, 0), a fourth", yard, yard.link(0, 1, 3, 0), TAKEN);
        due.found("link(3, 0, 0, 1), a fourth", yard, yard.link(3, 0, 0, 1), TAKEN);
        due.is("link(3, 0, 3, 1), a ring", yard.link(3, 0, 3, 1), 1);
        due.is("point(4, 0)", yard.point(4, 0), 1);
        due.is("point(5, 0)", yard.point(5, 0), 2);
        due.is("link(4, 0, 5, 0)", yard.link(4, 0, 5, 0), 1);
        due.found("link(5, 0, 4, 0), joined, with POINTS", yard, yard.link(5, 0, 4, 0), TAKEN);
        due.of("4 link, LINKS in order as they came");
        due.is("wagon", yard.wagon(0, 2, 0, 4, 20), 0);
        due.is("engine", yard.engine(false, 0, 2, 50), 1);
        due.is("turn(0, 1)", yard.turn(0, 1), 0);
        due.found("pull(1, 0, 3)", yard, yard.pull(1, 0, 3), TAKEN);
        due.is("thing(1, 2)", yard.thing(1, 2), 3);
    }

    private static void exit() {
        due.of("5 exit");
        SwitchYard yard = yard(1);
        due.is("exit(0, 1, true)", yard.exit(0, 1, true), 0);
        due.is("exit(0, 0, false)", yard.exit(0, 0, false), 0);
        due.is("exit(0, 1, true)", yard.exit(0, 1, true), 1);
        due.is("exit(0, 1, false)", yard.exit(0, 1, false), 1);
        due.is("exit(0, 1, false)", yard.exit(0, 1, false), 0);
        due.is("exit(0, 2, true)", yard.exit(0, 2, true), BAD);
        due.is("exit(0, -1, true)", yard.exit(0, -1, true), BAD);
        due.found("exit(-1, 0, true)", yard, yard.exit(-1, 0, true), BEYOND);
        due.found("exit(24, 0, true)", yard, yard.exit(24, 0, true), BEYOND);
        due.found("exit(1, 0, true)", yard, yard.exit(1, 0, true), NOTHING);
    }

    private static void wagon() {
        due.of("6 wagon");
        SwitchYard yard = yard(2);
        due.is("wagon(-1, ..)", yard.wagon(-1, 0, 0, 4, 20), BAD);
        due.is("wagon(5, ..)", yard.wagon(5, 0, 0, 4, 20), BAD);
        due.is("axles -1", yard.wagon(0, 0, 0, -1, 20), BAD);
        due.is("axles 9", yard.wagon(0, 0, 0, 9, 20), BAD);
        due.is("tare 0", yard.wagon(0, 0, 0, 4, 0), BAD);
        due.is("tare 101", yard.wagon(0, 0, 0, 4, 101), BAD);
        due.is("BAD ahead of the TRACK", yard.wagon(0, 99, 0, 4, 101), BAD);
        due.found("track -1", yard, yard.wagon(0, -1, 0, 4, 20), BEYOND);
        due.found("track 24", yard, yard.wagon(0, 24, 0, 4, 20), BEYOND);
        due.found("track 2, place 9", yard, yard.wagon(0, 2, 9, 4, 20), NOTHING);
        due.found("place -1", yard, yard.wagon(0, 0, -1, 4, 20), BEYOND);
        due.found("place 4", yard, yard.wagon(0, 0, 4, 4, 20), BEYOND);
        due.is("count(-5), no SERIAL was given", yard.count(-5), 0);
        for (int kind = 0; kind <= 4; kind++) {
            due.is("wagon", yard.wagon(kind, kind / 4, kind % 4, kind, 100 - kind), kind);
            int[] all = {kind, kind / 4, kind % 4, 1, NONE, NONE, kind + 1, NONE, 0, 0, 0};
            for (int what = 0; what <= 10; what++) {
                due.is("thing(" + kind + ", " + what + ")", yard.thing(kind, what), all[what]);
            }
            due.is("danger", yard.ask(kind, 5), 0);
            due.is("at", yard.at(kind / 4, kind % 4), kind);
        }
        due.found("TAKEN", yard, yard.wagon(0, 0, 3, 4, 20), TAKEN);
        due.is("axles 8, tare 1", yard.wagon(0, 1, 3, 8, 1), 5);
        due.is("weight", yard.ask(5, 0), 1);
        due.is("count(-1)", yard.count(-1), 6);
    }

    private static void engine() {
        due.of("7 engine");
        SwitchYard yard = yard(2);
        due.is("power -1", yard.engine(false, 0, 0, -1), BAD);
        due.is("power 101", yard.engine(true, 99, 0, 101), BAD);
        due.found("track 24", yard, yard.engine(false, 24, 0, 4), BEYOND);
        due.found("track 2", yard, yard.engine(false, 2, 0, 4), NOTHING);
        due.found("place 4", yard, yard.engine(false, 1, 4, 4), BEYOND);
        due.is("engine(false, 1, 3, 0)", yard.engine(false, 1, 3, 0), 0);
        due.is("engine(true, 1, 2, 100)", yard.engine(true, 1, 2, 100), 1);
        due.found("TAKEN", yard, yard.engine(false, 1, 2, 4), TAKEN);
        due.is("kind", yard.thing(0, 0), 5);
        due.is("kind", yard.thing(1, 0), 6);
        due.is("weight", yard.ask(0, 0), 80);
        due.is("weight", yard.ask(1, 0), 180);
        due.is("serial", yard.thing(1, 6), 2);
        due.is("looks", yard.thing(1, 3), 1);
    }

    private static void fullOfThings() {
        due.of("6, 7 FULL");
        SwitchYard yard = new SwitchYard();
        for (int i = 0; i < 4; i++) {
            yard.track(24);
        }
        yard.exit(0, 0, true);
        due.is("engine", yard.engine(false, 0, 0, 50), 0);
        due.is("test(0)", yard.test(0), 1);
        due.is("leave(0)", yard.leave(0), 1);
        for (int i = 1; i < 72; i++) {
            due.is("wagon", yard.wagon(0, i / 24, i % 24, 4, 20), i);
        }
        due.found("at(0, 24)", yard, yard.at(0, 24), BEYOND);
        due.is("wagon, 72 were made", yard.wagon(0, 3, 0, 4, 20), FULL);
        due.is("engine, 72 were made", yard.engine(false, 3, 0, 20), FULL);
        due.is("FULL comes ahead of FOUND", yard.wagon(0, 99, 0, 4, 20), FULL);
        due.is("FULL comes ahead of FOUND", yard.engine(true, 99, 0, 20), FULL);
        due.is("BAD comes first", yard.wagon(0, 99, 0, 4, 0), BAD);
        due.is("BAD comes first", yard.engine(true, 99, 0, 200), BAD);
        due.is("finding(0) is as it was", yard.finding(0), BEYOND);
        due.is("count(-1)", yard.count(-1), 72);
        due.is("count(-2)", yard.count(-2), 71);
        due.is("thing(71, 0)", yard.thing(71, 0), 0);
        due.found("thing(72, 0)", yard, yard.thing(72, 0), BEYOND);
    }

    private static void bar() {
        due.of("8 bar");
        SwitchYard yard = yard(1);
        yard.at(9, 9);
        due.is("bar(-1, 0)", yard.bar(-1, 0, true), BAD);
        due.is("bar(0, 10)", yard.bar(0, 10, true), BAD);
        due.is("bar(10, 0)", yard.bar(10, 0, true), BAD);
        due.is("bar(0, -1)", yard.bar(0, -1, true), BAD);
        due.is("bar(9, 2, true)", yard.bar(9, 2, true), 0);
        due.is("bar(2, 9, true), either way", yard.bar(2, 9, true), 1);
        due.is("bar(2, 9, false)", yard.bar(2, 9, false), 1);
        due.is("bar(9, 2, false)", yard.bar(9, 2, false), 0);
        due.is("bar(3, 3, true)", yard.bar(3, 3, true), 0);
        due.is("bar(3, 3, false)", yard.bar(3, 3, false), 1);
        due.is("bar(2, 8, false)", yard.bar(2, 8, false), 0);
        due.is("finding(0) is as it was", yard.finding(0), NOTHING);
    }

    private static void table() {
        due.of("9 table");
        SwitchYard yard = yard(1);
        yard.at(9, 9);
        due.is("table(-1, 0)", yard.table(-1, 0), BAD);
        due.is("table(8, 0)", yard.table(8, 0), BAD);
        due.is("table(0, -1)", yard.table(0, -1), BAD);
        due.is("table(0, 100)", yard.table(0, 100), BAD);
        due.is("table(0, 99)", yard.table(0, 99), 0);
        due.is("table(7, 5)", yard.table(7, 5), 0);
        due.is("table(0, 0)", yard.table(0, 0), 99);
        due.is("table(7, 1)", yard.table(7, 1), 5);
        due.is("finding(0) is as it was", yard.finding(0), NOTHING);
    }

    private static void route() {
        due.of("10 route");
        SwitchYard yard = yard(1);
        yard.at(9, 9);
        for (int i = 0; i < 12; i++) {
            due.is("route()", yard.route(), i);
        }
        due.is("route()", yard.route(), FULL);
        due.is("count(-7)", yard.count(-7), 12);
        due.is("finding(0) is as it was", yard.finding(0), NOTHING);
        due.is("lock(11), without ENTRIES", yard.lock(11), 0);
        due.is("route()", yard.route(), FULL);
        due.is("count(-8), FULL forgets nothing", yard.count(-8), 1);
    }

    private static void via() {
        due.of("11 via");
        SwitchYard yard = yard(6);
        for (int i = 0; i < 10; i++) {
            due.is("point", yard.point(i / 2, i % 2), i);
        }
        yard.link(0, 0, 5, 0);
        yard.route();
        yard.route();
        due.is("link -1", yard.via(0, 0, -1, 0), BAD);
        due.is("link 3", yard.via(0, 0, 3, 0), BAD);
        due.is("rank -1", yard.via(0, 0, 0, -1), BAD);
        due.is("rank 100", yard.via(99, 0, 0, 100), BAD);
        due.found("route 12", yard, yard.via(12, 99, 0, 0), BEYOND);
        due.found("route -1", yard, yard.via(-1, 0, 0, 0), BEYOND);
        due.found("route 2, point 99", yard, yard.via(2, 99, 0, 0), NOTHING);
        due.found("point 40", yard, yard.via(0, 40, 0, 0), BEYOND);
        due.found("point -1", yard, yard.via(0, -1, 0, 0), BEYOND);
        due.found("point 10", yard, yard.via(0, 10, 0, 0), NOTHING);
        due.is("via(0, 0, 0, 99)", yard.via(0, 0, 0, 99), 1);
        due.found("the same POINT", yard, yard.via(0, 0, 1, 0), TAKEN);
        due.is("another ROUTE", yard.via(1, 0, 2, 0), 1);
        for (int i = 1; i < 8; i++) {
            due.is("via", yard.via(0, i, i % 3, 5), i + 1);
        }
        due.found("a ninth ENTRY", yard, yard.via(0, 8, 0, 0), TAKEN);
        yard.route();
        due.is("via(2, 0, 0, 0)", yard.via(2, 0, 0, 0), 1);
        due.is("lock(2)", yard.lock(2), 1);
        due.found("the ROUTE is locked", yard, yard.via(2, 1, 0, 0), LOCKED);
        due.is("finding(3)", yard.finding(3), 2);
        due.found("TAKEN comes ahead", yard, yard.via(2, 0, 0, 0), TAKEN);
        due.is("finding(3)", yard.finding(3), NONE);
        due.is("another ROUTE", yard.via(1, 1, 0, 0), 2);
        due.is("free(2)", yard.free(2), 1);
        due.is("via(2, 1, 0, 0)", yard.via(2, 1, 0, 0), 2);
    }

    private static void load() {
        due.of("12 load");
        SwitchYard yard = yard(2);
        for (int kind = 0; kind <= 4; kind++) {
            yard.wagon(kind, kind / 4, kind % 4, 4, 10);
        }
        yard.engine(false, 1, 1, 5);
        due.is("sort -1", yard.load(0, -1, 1), BAD);
        due.is("sort 2", yard.load(0, 2, 1), BAD);
        due.is("n 21", yard.load(99, 0, 21), BAD);
        due.found("thing -1", yard, yard.load(-1, 0, -1), BEYOND);
        due.found("thing 72", yard, yard.load(72, 0, 1), BEYOND);
        due.found("thing 6", yard, yard.load(6, 0, -1), NOTHING);
        due.found("an ENGINE", yard, yard.load(5, 0, -1), NOT_SUCH);
        due.found("n -1", yard, yard.load(0, 0, -1), SIZE);
        due.found("n MIN", yard, yard.load(0, 1, MIN), SIZE);
        due.found("ask(0, 6), still NOTHING", yard, yard.ask(0, 6), NOTHING);
        for (int kind = 0; kind <= 4; kind++) {
            due.is("load(" + kind + ", 1, 20)", yard.load(kind, 1, 20), 20);
        }
        due.is("piece(0, 19, 1, 120)", yard.piece(0, 19, 1, 120), 1);
        due.is("ask(0, 0)", yard.ask(0, 0), 130);
        due.is("load(0, 1, 20), anew", yard.load(0, 1, 20), 20);
        due.is("ask(0, 0), all 0", yard.ask(0, 0), 10);
        due.is("piece(0, 19, 1, 7)", yard.piece(0, 19, 1, 7), 1);
        due.is("ask(0, 0)", yard.ask(0, 0), 17);
        due.is("load(0, 0, 0)", yard.load(0, 0, 0), 0);
        due.is("ask(0, 6), a row of none", yard.ask(0, 6), 0);
        due.found("a SIZE leaves the LOAD", yard, yard.load(1, 0, -1), SIZE);
        due.is("ask(1, 6)", yard.ask(1, 6), 20);
    }

    private static void piece() {
        due.of("13 piece");
        SwitchYard yard = yard(1);
        yard.wagon(0, 0, 0, 4, 10);
        yard.wagon(1, 0, 1, 4, 10);
        yard.engine(false, 0, 2, 5);
        yard.load(0, 0, 3);
        due.is("sort 2", yard.piece(0, 0, 2, 0), BAD);
        due.is("v -1", yard.piece(0, 0, 0, -1), BAD);
        due.is("v 121", yard.piece(99, 0, 0, 121), BAD);
        due.found("thing 72", yard, yard.piece(72, 0, 0, 0), BEYOND);
        due.found("thing 3", yard, yard.piece(3, 0, 0, 0), NOTHING);
        due.found("an ENGINE", yard, yard.piece(2, 0, 0, 0), NOT_SUCH);
        due.found("no LOAD", yard, yard.piece(1, 99, 1, 0), NOTHING);
        due.found("another sort", yard, yard.piece(0, 99, 1, 0), NOT_SUCH);
        due.found("i -1", yard, yard.piece(0, -1, 0, 0), BEYOND);
        due.found("i 3", yard, yard.piece(0, 3, 0, 0), BEYOND);
        due.found("i MAX", yard, yard.piece(0, MAX, 0, 0), BEYOND);
        due.is("piece(0, 0, 0, 120)", yard.piece(0, 0, 0, 120), 1);
        due.is("piece(0, 2, 0, 5)", yard.piece(0, 2, 0, 5), 1);
        due.is("piece(0, 0, 0, 100)", yard.piece(0, 0, 0, 100), 1);
        due.is("ask(0, 0)", yard.ask(0, 0), 115);
        due.is("load(1, 1, 1)", yard.load(1, 1, 1), 1);
        due.found("another sort", yard, yard.piece(1, 0, 0, 1), NOT_SUCH);
        due.is("piece(1, 0, 1, 120)", yard.piece(1, 0, 1, 120), 1);
        due.is("ask(1, 0)", yard.ask(1, 0), 131);
        due.is("the other LOAD", yard.ask(0, 0), 115);
    }

    /** One that is kept for undo(), one for back(). */
    private static SwitchYard keeping() {
        SwitchYard yard = yard(3);
        yard.point(0, 0);
        yard.link(0, 0, 2, 0);
        yard.route();
        yard.wagon(0, 0, 1, 4, 20);
        yard.hold(0, 1);
        yard.hold(0, 2);
        yard.undo();
        due.is("count(-8)", yard.count(-8), 1);
        due.is("count(-9)", yard.count(-9), 1);
        return yard;
    }

    private static void forgotten(String call, SwitchYard yard, int answer, int want) {
        due.is(call, answer, want);
        due.is("count(-8) behind " + call, yard.count(-8), 0);
        due.is("count(-9) behind " + call, yard.count(-9), 0);
        due.is("undo() behind " + call, yard.undo(), 0);
        due.is("back() behind " + call, yard.back(), 0);
        due.is("thing(0, 7) behind " + call, yard.thing(0, 7), 1);
    }

    private static void makingForgets() {
        due.of("2 to 11 forget all that is kept");
        SwitchYard yard = keeping();
        forgotten("track(2)", yard, yard.track(2), 3);
        yard = keeping();
        forgotten("point(1, 1)", yard, yard.point(1, 1), 1);
        yard = keeping();
        forgotten("link(0, 1, 1, 0)", yard, yard.link(0, 1, 1, 0), 1);
        yard = keeping();
        forgotten("exit(0, 0, false)", yard, yard.exit(0, 0, false), 0);
        yard = keeping();
        forgotten("wagon(1, 1, 1, 4, 20)", yard, yard.wagon(1, 1, 1, 4, 20), 1);
        yard = keeping();
        forgotten("engine(true, 1, 1, 20)", yard, yard.engine(true, 1, 1, 20), 1);
        yard = keeping();
        forgotten("bar(1, 1, false)", yard, yard.bar(1, 1, false), 0);
        yard = keeping();
        forgotten("table(1, 0)", yard, yard.table(1, 0), 0);
        yard = keeping();
        forgotten("route()", yard, yard.route(), 1);
        yard = keeping();
        forgotten("via(0, 0, 0, 0)", yard, yard.via(0, 0, 0, 0), 1);
    }

    private static void refusedMakingForgetsNothing() {
        due.of("2 to 13 forget nothing when they fail");
        SwitchYard yard = keeping();
        for (int want : new int[] {BAD, FOUND}) {
            due.is("track", yard.track(want == BAD ? 0 : -1), want);
            due.is("point", yard.point(0, want == BAD ? 2 : 0), want);
            due.is("link", yard.link(0, want == BAD ? 2 : 0, 0, 0), want);
            due.is("exit", yard.exit(9, want == BAD ? 2 : 0, true), want);
            due.is("wagon", yard.wagon(want == BAD ? 9 : 0, 0, 1, 4, 20), want);
            due.is("engine", yard.engine(true, 0, 1, want == BAD ? 101 : 0), want);
            due.is("via", yard.via(9, 0, want == BAD ? 3 : 0, 0), want);
        }
        due.is("bar", yard.bar(10, 0, true), BAD);
        due.is("table", yard.table(8, 0), BAD);
        due.is("load(0, 0, 3)", yard.load(0, 0, 3), 3);
        due.is("piece(0, 0, 0, 3)", yard.piece(0, 0, 0, 3), 1);
        due.is("hold(0, 1000)", yard.hold(0, 1000), BAD);
        due.is("undo()", yard.undo(), 1);
        due.is("back()", yard.back(), 1);
        due.is("roll(1, 0, 1)", yard.roll(1, 0, 1), 1);
        due.is("raise(0)", yard.raise(0), FOUND);
        due.is("count(-8)", yard.count(-8), 1);
        due.is("count(-9)", yard.count(-9), 1);
        due.is("back()", yard.back(), 1);
        due.is("thing(0, 7)", yard.thing(0, 7), 2);
        due.is("ask(0, 0), a LOAD is no STATE", yard.ask(0, 0), 23);
    }
}
