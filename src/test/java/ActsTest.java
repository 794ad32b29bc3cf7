/** Promises 14 to 29: acts. */
final class ActsTest {
    private static final int BAD = SwitchYard.BAD, FOUND = SwitchYard.FOUND, NONE = SwitchYard.NONE;
    private static final int NOTHING = 1, NOT_SUCH = 2, BEYOND = 3, STORE = 4, ZERO = 6, NONE_HELD = 7, HELD = 8,
            TAKEN = 9, CLOSED = 10, LOCKED = 11, UNDER = 12, BARRED = 13, COUPLED = 14, WEAK = 15, RUNS = 16,
            UNTESTED = 17;
    private static final Due due = new Due();

    public static void main(String[] args) {
        danger();
        hold();
        jam();
        raise();
        turn();
        lock();
        lockGivesAllBack();
        free();
        couple();
        coupleOverLinks();
        coupleSuits();
        part();
        pull();
        pullTurnsRound();
        pullInRings();
        pullOverPoints();
        pullJams();
        pullWeak();
        kick();
        step();
        stepMeetsOthers();
        stepWhenOneStops();
        test();
        leave();
        roll();
        store();
        whoLeftIsNothing();
        due.end();
    }

    /** A TRACK of some PLACES. */
    private static SwitchYard yard(int places) {
        SwitchYard yard = new SwitchYard();
        due.is("track(" + places + ")", yard.track(places), 0);
        return yard;
    }

    /** Where a THING stands: 100 TRACK + 10 PLACE + where SIDE 0 LOOKS. */
    private static void stands(SwitchYard yard, int thing, int want) {
        due.is("where " + thing + " stands", 100 * yard.thing(thing, 1) + 10 * yard.thing(thing, 2)
                + yard.thing(thing, 3), want);
    }

    private static void danger() {
        due.of("14 danger");
        SwitchYard yard = yard(4);
        yard.wagon(4, 0, 0, 4, 20);
        yard.engine(false, 0, 1, 20);
        due.is("danger(0, -1)", yard.danger(0, -1), BAD);
        due.is("danger(99, 10)", yard.danger(99, 10), BAD);
        due.found("danger(72, 1)", yard, yard.danger(72, 1), BEYOND);
        due.found("danger(-1, 1)", yard, yard.danger(-1, 1), BEYOND);
        due.found("danger(2, 1)", yard, yard.danger(2, 1), NOTHING);
        due.found("danger(1, 1)", yard, yard.danger(1, 1), NOT_SUCH);
        due.is("danger(0, 9)", yard.danger(0, 9), 0);
        due.is("danger(0, 3)", yard.danger(0, 3), 9);
        due.is("ask(0, 5)", yard.ask(0, 5), 3);
        due.is("undo()", yard.undo(), 1);
        due.is("ask(0, 5), it is STATE", yard.ask(0, 5), 9);
        due.of("14 danger, what is coupled stays so");
        yard.wagon(0, 0, 2, 4, 20);
        yard.wagon(0, 0, 3, 4, 20);
        yard.bar(1, 2, true);
        due.is("couple(2, 0)", yard.couple(2, 0), 3);
        due.is("danger(2, 1)", yard.danger(2, 1), 0);
        due.is("danger(3, 2)", yard.danger(3, 2), 0);
        due.is("thing(2, 4)", yard.thing(2, 4), 3);
    }

    private static void hold() {
        due.of("15 hold");
        SwitchYard yard = yard(4);
        yard.engine(false, 0, 1, 20);
        due.is("hold(0, -1)", yard.hold(0, -1), BAD);
        due.is("hold(0, -5)", yard.hold(0, -5), BAD);
        due.is("hold(99, 1000)", yard.hold(99, 1000), BAD);
        due.found("hold(72, 1)", yard, yard.hold(72, 1), BEYOND);
        due.found("hold(1, 1)", yard, yard.hold(1, 1), NOTHING);
        due.is("hold(0, 0)", yard.hold(0, 0), NONE);
        due.is("hold(0, 999)", yard.hold(0, 999), 0);
        due.is("hold(0, NONE)", yard.hold(0, NONE), 999);
        due.is("thing(0, 7)", yard.thing(0, 7), NONE);
        due.is("undo()", yard.undo(), 1);
        due.is("thing(0, 7)", yard.thing(0, 7), 999);
    }

    private static void jam() {
        due.of("16 jam");
        SwitchYard yard = yard(4);
        yard.wagon(0, 0, 1, 4, 20);
        due.is("jam(0, -1)", yard.jam(0, -1), BAD);
        due.is("jam(99, 51)", yard.jam(99, 51), BAD);
        due.found("jam(-1, 1)", yard, yard.jam(-1, 1), BEYOND);
        due.found("jam(1, 1)", yard, yard.jam(1, 1), NOTHING);
        due.is("jam(0, 50)", yard.jam(0, 50), 0);
        due.is("jam(0, 0)", yard.jam(0, 0), 50);
        due.is("undo()", yard.undo(), 1);
        due.is("thing(0, 8)", yard.thing(0, 8), 50);
    }

    private static void raise() {
        due.of("17 raise");
        SwitchYard yard = yard(4);
        yard.wagon(0, 0, 1, 4, 20);
        due.found("raise(72)", yard, yard.raise(72), BEYOND);
        due.found("raise(1)", yard, yard.raise(1), NOTHING);
        due.found("raise(0)", yard, yard.raise(0), NONE_HELD);
        due.is("finding(1)", yard.finding(1), NONE);
        yard.hold(0, 0);
        due.found("raise(0)", yard, yard.raise(0), HELD);
        due.is("finding(1)", yard.finding(1), 0);
        due.is("it holds still", yard.thing(0, 7), 0);
        due.is("finding(1) behind another call", yard.finding(1), NONE);
        due.is("count(-8), no ACT that keeps", yard.count(-8), 1);
        due.is("log(0, 0)", yard.log(0, 0), 1);
        due.is("undo()", yard.undo(), 1);
        due.found("raise(0)", yard, yard.raise(0), NONE_HELD);
        due.is("back(), none came since that keeps", yard.back(), 1);
    }

    /** TRACK 0 of 4 with POINT 0 behind it, LINKED to TRACKS 1 and 2; POINT 1 ahead of it without a LINK. */
    private static SwitchYard fork() {
        SwitchYard yard = yard(4);
        yard.track(4);
        yard.track(4);
        yard.point(0, 1);
        yard.link(0, 1, 1, 0);
        yard.link(0, 1, 2, 0);
        yard.point(0, 0);
        yard.route();
        yard.route();
        return yard;
    }

    private static void turn() {
        due.of("18 turn");
        SwitchYard yard = fork();
        due.found("turn(40, 0)", yard, yard.turn(40, 0), BEYOND);
        due.found("turn(-1, 0)", yard, yard.turn(-1, 0), BEYOND);
        due.found("turn(2, 9)", yard, yard.turn(2, 9), NOTHING);
        due.found("turn(0, 2)", yard, yard.turn(0, 2), BEYOND);
        due.found("turn(0, -1)", yard, yard.turn(0, -1), BEYOND);
        due.found("turn(1, 0), it has no LINK", yard, yard.turn(1, 0), BEYOND);
        due.is("turn(0, 1)", yard.turn(0, 1), 0);
        due.is("turn(0, 1)", yard.turn(0, 1), 1);
        due.is("turn(0, 0)", yard.turn(0, 0), 1);
        yard.wagon(0, 0, 3, 4, 20);
        yard.wagon(0, 1, 0, 4, 20);
        due.found("turn(0, 1)", yard, yard.turn(0, 1), UNDER);
        due.is("pointed(0, 3)", yard.pointed(0, 3), 0);
        due.is("turn(0, 0), SET to it", yard.turn(0, 0), 0);
        yard.via(0, 0, 0, 0);
        due.is("lock(0)", yard.lock(0), 1);
        due.found("turn(0, 1), locked and under", yard, yard.turn(0, 1), LOCKED);
        due.is("finding(3)", yard.finding(3), 0);
        due.found("turn(0, 2), locked", yard, yard.turn(0, 2), BEYOND);
        due.is("turn(0, 0), locked", yard.turn(0, 0), 0);
        due.is("pointed(0, 4)", yard.pointed(0, 4), 0);
        due.is("count(12)", yard.count(UNDER), 1);
    }

    private static void lock() {
        due.of("19 lock");
        SwitchYard yard = fork();
        due.found("lock(12)", yard, yard.lock(12), BEYOND);
        due.found("lock(-1)", yard, yard.lock(-1), BEYOND);
        due.found("lock(2)", yard, yard.lock(2), NOTHING);
        due.is("lock(0), no ENTRIES", yard.lock(0), 0);
        yard.via(0, 0, 1, 7);
        yard.via(1, 0, 0, 7);
        due.is("lock(0)", yard.lock(0), 1);
        due.is("pointed(0, 3)", yard.pointed(0, 3), 1);
        due.is("pointed(0, 4)", yard.pointed(0, 4), 0);
        due.found("lock(0) again", yard, yard.lock(0), LOCKED);
        due.is("finding(3)", yard.finding(3), 0);
        due.found("lock(1)", yard, yard.lock(1), LOCKED);
        due.is("finding(3)", yard.finding(3), 0);
        due.is("free(0)", yard.free(0), 1);
        due.is("it is SET still", yard.pointed(0, 3), 1);
        yard.wagon(0, 0, 3, 4, 20);
        due.found("lock(1)", yard, yard.lock(1), UNDER);
        due.is("finding(3)", yard.finding(3), NONE);
        due.is("lock(0), SET to it", yard.lock(0), 1);
        due.is("undo()", yard.undo(), 1);
        due.is("pointed(0, 4)", yard.pointed(0, 4), NONE);
        due.is("back()", yard.back(), 1);
        due.is("pointed(0, 4)", yard.pointed(0, 4), 0);
    }

    private static void lockGivesAllBack() {
        due.of("19 lock, by RANKS, and all given back");
        SwitchYard yard = new SwitchYard();
        for (int i = 0; i < 8; i++) {
            yard.track(3);
        }
        for (int i = 0; i < 4; i++) {
            yard.point(i, 0);
            yard.link(i, 0, 4 + i, 0);
        }
        yard.link(0, 0, 1, 1);
        yard.link(1, 0, 2, 1);
        yard.link(2, 0, 3, 1);
        for (int i = 0; i < 5; i++) {
            yard.route();
        }
        // POINT 3 has one LINK; something stands at POINT 2.
        yard.wagon(0, 2, 0, 4, 20);
        yard.via(0, 3, 1, 5);
        yard.via(0, 2, 1, 6);
        yard.via(0, 1, 1, 4);
        yard.via(0, 0, 1, 4);
        long before = yard.digest();
        due.found("lock(0), POINT 3 is ahead", yard, yard.lock(0), BEYOND);
        due.is("digest()", yard.digest(), before);
        for (int i = 0; i < 4; i++) {
            due.is("pointed(i, 3)", yard.pointed(i, 3), 0);
            due.is("pointed(i, 4)", yard.pointed(i, 4), NONE);
        }
        yard.via(1, 3, 1, 5);
        yard.via(1, 2, 1, 5);
        due.found("lock(1), of the same RANK POINT 2 is ahead", yard, yard.lock(1), UNDER);
        yard.via(2, 0, 1, 0);
        yard.via(2, 1, 0, 1);
        yard.via(3, 1, 1, 0);
        yard.via(3, 0, 0, 99);
        yard.via(4, 0, 0, 0);
        yard.via(4, 1, 0, 0);
        due.is("turn(1, 1)", yard.turn(1, 1), 0);
        due.is("lock(2)", yard.lock(2), 2);
        due.is("pointed(0, 3)", yard.pointed(0, 3), 1);
        due.is("pointed(1, 3)", yard.pointed(1, 3), 0);
        due.is("free(2)", yard.free(2), 2);
        due.is("lock(4)", yard.lock(4), 2);
        due.found("lock(3)", yard, yard.lock(3), LOCKED);
        due.is("finding(3)", yard.finding(3), 4);
        due.is("free(4)", yard.free(4), 2);
        due.is("lock(3)", yard.lock(3), 2);
        due.is("pointed(1, 3)", yard.pointed(1, 3), 1);
        due.is("free(3)", yard.free(3), 2);
        due.is("turn(0, 1)", yard.turn(0, 1), 0);
        yard.route();
        yard.via(5, 3, 1, 8);
        yard.via(5, 1, 0, 7);
        yard.via(5, 0, 0, 6);
        yard.via(5, 2, 1, 9);
        due.found("lock(5)", yard, yard.lock(5), BEYOND);
        due.is("pointed(0, 3), SET as it was", yard.pointed(0, 3), 1);
        due.is("pointed(1, 3), SET as it was", yard.pointed(1, 3), 1);
        due.is("turn(0, 0)", yard.turn(0, 0), 1);
        due.is("lock(3)", yard.lock(3), 2);
        due.found("lock(2), a POINT of 3 is locked", yard, yard.lock(2), LOCKED);
        due.is("finding(3)", yard.finding(3), 3);
        due.is("pointed(1, 4), 3 has it still", yard.pointed(1, 4), 3);
    }

    private static void free() {
        due.of("20 free");
        SwitchYard yard = fork();
        due.found("free(12)", yard, yard.free(12), BEYOND);
        due.found("free(2)", yard, yard.free(2), NOTHING);
        due.is("free(0)", yard.free(0), 0);
        yard.via(0, 0, 1, 7);
        due.is("lock(0)", yard.lock(0), 1);
        due.is("free(1)", yard.free(1), 0);
        due.is("free(0)", yard.free(0), 1);
        due.is("free(0)", yard.free(0), 0);
        due.is("pointed(0, 4)", yard.pointed(0, 4), NONE);
        due.is("pointed(0, 3)", yard.pointed(0, 3), 1);
    }

    private static void couple() {
        due.of("21 couple");
        SwitchYard yard = yard(6);
        yard.wagon(0, 0, 0, 4, 20);
        yard.wagon(0, 0, 1, 4, 20);
        yard.engine(false, 0, 2, 50);
        yard.wagon(0, 0, 4, 4, 20);
        yard.wagon(0, 0, 5, 4, 20);
        yard.table(1, 9);
        due.found("couple(72, 5)", yard, yard.couple(72, 5), BEYOND);
        due.found("couple(5, 5)", yard, yard.couple(5, 5), NOTHING);
        due.found("couple(0, 2)", yard, yard.couple(0, 2), BEYOND);
        due.found("couple(0, -1)", yard, yard.couple(0, -1), BEYOND);
        due.found("couple(0, 1)", yard, yard.couple(0, 1), CLOSED);
        due.found("couple(2, 0)", yard, yard.couple(2, 0), NOTHING);
        due.is("test(1)", yard.test(1), 1);
        due.is("couple(0, 0)", yard.couple(0, 0), 1);
        due.trace(yard, 17, 17);
        due.is("thing(0, 4)", yard.thing(0, 4), 1);
        due.is("thing(0, 5)", yard.thing(0, 5), NONE);
        due.is("thing(1, 5)", yard.thing(1, 5), 0);
        due.is("thing(1, 4)", yard.thing(1, 4), NONE);
        due.is("SERIAL", yard.thing(0, 6), 6);
        due.is("SERIAL", yard.thing(1, 6), 6);
        due.is("TESTED", yard.thing(1, 10), 0);
        due.found("couple(0, 0) again", yard, yard.couple(0, 0), COUPLED);
        due.found("couple(1, 1) again", yard, yard.couple(1, 1), COUPLED);
        due.is("couple(2, 1)", yard.couple(2, 1), 1);
        due.trace(yard, 18, 17);
        due.is("SERIAL of all", yard.thing(0, 6), 7);
        due.is("SERIAL of all", yard.thing(2, 6), 7);
        due.is("count(-5)", yard.count(-5), 7);
        due.is("kick(3, 1)", yard.kick(3, 1), 9);
        due.found("couple(3, 0), it RUNS", yard, yard.couple(3, 0), RUNS);
        due.found("couple(4, 1), that RUNS", yard, yard.couple(4, 1), RUNS);
        due.is("kick(4, 0)", yard.kick(4, 0), 9);
        due.found("couple(4, 0), it RUNS, closed", yard, yard.couple(4, 0), RUNS);
        due.is("undo()", yard.undo(), 1);
        due.is("count(-5), SERIALS go on", yard.count(-5), 7);
    }

    private static void coupleOverLinks() {
        due.of("21 couple, over LINKS and in rings");
        SwitchYard yard = yard(2);
        yard.track(2);
        yard.link(0, 1, 1, 1);
        yard.link(0, 0, 1, 0);
        yard.engine(false, 0, 1, 50);
        yard.wagon(0, 1, 1, 4, 20);
        yard.wagon(0, 1, 0, 4, 20);
        yard.wagon(0, 0, 0, 4, 20);
        due.is("couple(0, 0), both look at the END", yard.couple(0, 0), 1);
        due.is("thing(1, 4)", yard.thing(1, 4), 0);
        due.is("thing(1, 5)", yard.thing(1, 5), NONE);
        due.is("couple(1, 1)", yard.couple(1, 1), 2);
        due.is("couple(3, 1)", yard.couple(3, 1), 2);
        due.is("thing(2, 4)", yard.thing(2, 4), 1);
        due.is("thing(2, 5)", yard.thing(2, 5), 3);
        due.found("couple(3, 0), one CONSIST", yard, yard.couple(3, 0), COUPLED);
        due.found("couple(0, 1), one CONSIST", yard, yard.couple(0, 1), COUPLED);
        SwitchYard alone = yard(1);
        alone.link(0, 0, 0, 1);
        alone.wagon(0, 0, 0, 4, 20);
        due.found("couple(0, 0), itself", alone, alone.couple(0, 0), CLOSED);
        due.found("couple(0, 1), itself", alone, alone.couple(0, 1), CLOSED);
    }

    private static void coupleSuits() {
        due.of("21 couple, SUITS");
        SwitchYard yard = yard(12);
        yard.wagon(4, 0, 0, 4, 20);
        yard.wagon(1, 0, 1, 4, 20);
        yard.wagon(4, 0, 3, 4, 20);
        yard.wagon(2, 0, 4, 4, 20);
        yard.wagon(4, 0, 6, 4, 20);
        yard.wagon(3, 0, 7, 4, 20);
        yard.wagon(4, 0, 9, 4, 20);
        yard.engine(true, 0, 10, 20);
        due.found("EMPTY to TANK", yard, yard.couple(0, 0), BARRED);
        due.trace(yard, 19);
        due.found("TANK to EMPTY", yard, yard.couple(1, 1), BARRED);
        due.trace(yard, 17, 19);
        due.found("EMPTY to COLD", yard, yard.couple(2, 0), BARRED);
        due.trace(yard, 19);
        yard.bar(0, 0, true);
        due.found("EMPTY to LONG, BARRED", yard, yard.couple(4, 0), BARRED);
        due.trace(yard, 19, 17);
        due.found("LONG to EMPTY, BARRED", yard, yard.couple(5, 1), BARRED);
        due.trace(yard, 17);
        due.is("count(-5), no SERIAL was given", yard.count(-5), 8);
        due.is("EMPTY to SLUG", yard.couple(6, 0), 7);
        due.trace(yard, 19, 17, 18);
        yard.bar(0, 0, false);
        due.is("EMPTY to LONG", yard.couple(4, 0), 5);
        due.trace(yard, 19, 17, 17);
        due.is("part(4, 0)", yard.part(4, 0), 5);
        yard.bar(2, 1, true);
        yard.danger(4, 1);
        due.is("1 and 0", yard.couple(5, 1), 4);
        due.trace(yard, 17, 19, 17);
        due.is("part(4, 0)", yard.part(4, 0), 5);
        yard.danger(5, 2);
        due.found("2 and 1", yard, yard.couple(5, 1), BARRED);
        due.trace(yard, 17);
        due.found("1 and 2", yard, yard.couple(4, 0), BARRED);
        due.trace(yard, 19, 17);
        due.is("count(13)", yard.count(BARRED), 7);
    }

    private static void part() {
        due.of("22 part");
        SwitchYard yard = yard(5);
        for (int i = 0; i < 4; i++) {
            yard.wagon(0, 0, i, 4, 20);
        }
        for (int i = 0; i < 3; i++) {
            yard.couple(i, 0);
        }
        due.is("test(0)", yard.test(0), 4);
        due.found("part(72, 0)", yard, yard.part(72, 0), BEYOND);
        due.found("part(4, 0)", yard, yard.part(4, 0), NOTHING);
        due.found("part(0, 2)", yard, yard.part(0, 2), BEYOND);
        due.found("part(0, 1)", yard, yard.part(0, 1), NOTHING);
        due.is("TESTED still", yard.thing(0, 10), 1);
        due.is("part(2, 1)", yard.part(2, 1), 1);
        due.is("SERIAL of 2", yard.thing(2, 6), 8);
        due.is("SERIAL of 3", yard.thing(3, 6), 8);
        due.is("SERIAL of 1", yard.thing(1, 6), 9);
        due.is("SERIAL of 0", yard.thing(0, 6), 9);
        for (int i = 0; i < 4; i++) {
            due.is("TESTED of " + i, yard.thing(i, 10), 0);
        }
        due.is("thing(1, 4)", yard.thing(1, 4), NONE);
        due.is("thing(2, 5)", yard.thing(2, 5), NONE);
        due.is("thing(2, 4)", yard.thing(2, 4), 3);
        due.found("part(2, 1) again", yard, yard.part(2, 1), NOTHING);
        due.is("count(-5)", yard.count(-5), 9);
    }

    private static void pull() {
        due.of("23 pull");
        SwitchYard yard = yard(8);
        yard.engine(false, 0, 2, 50);
        yard.wagon(0, 0, 3, 4, 20);
        yard.wagon(0, 0, 7, 4, 20);
        due.is("pull(0, 0, 0)", yard.pull(0, 0, 0), BAD);
        due.is("pull(99, 0, 201)", yard.pull(99, 0, 201), BAD);
        due.found("pull(72, 0, 1)", yard, yard.pull(72, 0, 1), BEYOND);
        due.found("pull(3, 0, 1)", yard, yard.pull(3, 0, 1), NOTHING);
        due.found("pull(1, 9, 1)", yard, yard.pull(1, 9, 1), NOT_SUCH);
        due.found("pull(0, 2, 1)", yard, yard.pull(0, 2, 1), BEYOND);
        due.found("pull(0, 0, 1), not coupled", yard, yard.pull(0, 0, 1), TAKEN);
        due.is("finding(2)", yard.finding(2), 0);
        due.is("couple(0, 0)", yard.couple(0, 0), 1);
        due.is("pull(0, 1, 2)", yard.pull(0, 1, 2), 2);
        due.is("finding(2)", yard.finding(2), 2);
        due.is("finding(0)", yard.finding(0), 0);
        due.trace(yard, 1, 5, 15);
        stands(yard, 0, 1);
        stands(yard, 1, 11);
        due.found("pull(0, 1, 200)", yard, yard.pull(0, 1, 200), CLOSED);
        due.is("finding(2)", yard.finding(2), 0);
        due.found("pull(0, 0, 200)", yard, yard.pull(0, 0, 200), TAKEN);
        due.is("finding(2)", yard.finding(2), 5);
        stands(yard, 0, 51);
        stands(yard, 1, 61);
        due.is("undo(), with the STEPS that stayed", yard.undo(), 1);
        stands(yard, 1, 11);
        due.is("at(0, 6)", yard.at(0, 6), NONE);
        due.is("at(0, 1)", yard.at(0, 1), 1);
        due.is("finding(2), of another call", yard.finding(2), 0);
    }

    private static void pullTurnsRound() {
        due.of("23 pull, over a LINK that turns it round");
        SwitchYard yard = yard(3);
        yard.track(3);
        yard.link(0, 1, 1, 1);
        yard.engine(false, 0, 1, 50);
        yard.wagon(0, 0, 2, 4, 20);
        due.is("couple(0, 0)", yard.couple(0, 0), 1);
        due.is("pull(0, 0, 1)", yard.pull(0, 0, 1), 1);
        stands(yard, 1, 120);
        stands(yard, 0, 21);
        due.is("pull(0, 0, 1)", yard.pull(0, 0, 1), 1);
        stands(yard, 1, 110);
        stands(yard, 0, 120);
        due.is("pull(0, 1, 1)", yard.pull(0, 1, 1), 1);
        stands(yard, 0, 21);
        stands(yard, 1, 120);
        due.is("meet(0, 0, 1)", yard.meet(0, 0, 1), 1);
        due.found("pull(0, 0, 9)", yard, yard.pull(0, 0, 9), CLOSED);
        due.is("finding(2)", yard.finding(2), 2);
        stands(yard, 1, 100);
    }

    private static void pullInRings() {
        due.of("23 pull, in rings");
        SwitchYard yard = yard(3);
        yard.link(0, 0, 0, 1);
        yard.engine(false, 0, 0, 50);
        due.is("pull(0, 0, 200)", yard.pull(0, 0, 200), 200);
        stands(yard, 0, 21);
        due.is("pull(0, 1, 5)", yard.pull(0, 1, 5), 5);
        stands(yard, 0, 1);
        yard.wagon(0, 0, 1, 4, 20);
        yard.wagon(0, 0, 2, 4, 20);
        due.is("couple(0, 0)", yard.couple(0, 0), 1);
        due.is("couple(1, 0)", yard.couple(1, 0), 2);
        due.found("pull(0, 0, 1), its own tail is ahead", yard, yard.pull(0, 0, 1), TAKEN);
        SwitchYard one = yard(1);
        one.link(0, 1, 0, 0);
        one.engine(false, 0, 0, 50);
        due.found("pull(0, 0, 1), the PLACE itself", one, one.pull(0, 0, 1), CLOSED);
    }

    private static void pullOverPoints() {
        due.of("23 pull, over POINTS");
        SwitchYard yard = fork();
        yard.point(1, 0);
        yard.link(1, 0, 2, 1);
        yard.engine(false, 0, 3, 50);
        due.is("turn(2, 1), the far one leads elsewhere", yard.turn(2, 1), 0);
        due.found("pull(0, 0, 1)", yard, yard.pull(0, 0, 1), CLOSED);
        due.is("turn(2, 0)", yard.turn(2, 0), 1);
        due.is("pull(0, 0, 1)", yard.pull(0, 0, 1), 1);
        stands(yard, 0, 101);
        due.is("turn(0, 1), nothing stands at it now", yard.turn(0, 1), 0);
        due.found("pull(0, 1, 1), the far one leads elsewhere", yard, yard.pull(0, 1, 1), CLOSED);
        due.found("turn(2, 1), something stands there", yard, yard.turn(2, 1), UNDER);
        due.is("turn(0, 0)", yard.turn(0, 0), 1);
        due.is("pull(0, 1, 4)", yard.pull(0, 1, 4), 4);
        stands(yard, 0, 1);
        due.found("pull(0, 1, 1), a POINT without LINKS", yard, yard.pull(0, 1, 1), CLOSED);
        due.is("turn(0, 1)", yard.turn(0, 1), 0);
        due.is("pull(0, 0, 5)", yard.pull(0, 0, 5), 5);
        stands(yard, 0, 211);
    }

    private static void pullJams() {
        due.of("23 pull, JAMMED");
        SwitchYard yard = yard(9);
        yard.engine(false, 0, 0, 50);
        yard.wagon(0, 0, 1, 4, 20);
        yard.wagon(0, 0, 2, 4, 20);
        yard.couple(0, 0);
        yard.couple(1, 0);
        yard.jam(0, 3);
        yard.jam(2, 9);
        yard.hold(0, 42);
        due.found("pull(0, 0, 9)", yard, yard.pull(0, 0, 9), HELD);
        due.is("finding(1)", yard.finding(1), 42);
        due.is("finding(2)", yard.finding(2), 2);
        stands(yard, 0, 21);
        due.is("JAM of 0, as ahead of the STEP", yard.thing(0, 8), 1);
        due.is("JAM of 2, as ahead of the STEP", yard.thing(2, 8), 7);
        due.is("it holds still", yard.thing(0, 7), 42);
        due.found("pull(0, 0, 9)", yard, yard.pull(0, 0, 9), HELD);
        due.is("finding(2)", yard.finding(2), 0);
        yard.jam(1, 1);
        due.found("pull(0, 0, 9), 1 is ahead of 0", yard, yard.pull(0, 0, 9), NONE_HELD);
        due.is("finding(1)", yard.finding(1), NONE);
        due.found("pull(0, 1, 9), 0 leads", yard, yard.pull(0, 1, 9), HELD);
        due.is("finding(1)", yard.finding(1), 42);
        yard.jam(0, 0);
        yard.jam(1, 0);
        due.found("pull(0, 0, 9)", yard, yard.pull(0, 0, 9), CLOSED);
        due.is("finding(2)", yard.finding(2), 4);
        due.is("JAM of 2", yard.thing(2, 8), 3);
        yard.jam(2, 1);
        due.found("pull(0, 0, 1), CLOSED comes ahead", yard, yard.pull(0, 0, 1), CLOSED);
    }

    private static void pullWeak() {
        due.of("23 pull, WEAK");
        SwitchYard yard = yard(9);
        yard.engine(false, 0, 1, 5);
        yard.wagon(0, 0, 2, 4, 15);
        due.is("couple(0, 0)", yard.couple(0, 0), 1);
        due.is("pull(0, 0, 1), 100 and 100", yard.pull(0, 0, 1), 1);
        yard.load(1, 0, 1);
        yard.piece(1, 0, 0, 1);
        due.found("pull(0, 0, 1), 101 and 100", yard, yard.pull(0, 0, 1), WEAK);
        due.trace(yard, 1, 5, 15);
        yard.engine(true, 0, 1, 20);
        due.is("couple(2, 0)", yard.couple(2, 0), 0);
        due.is("pull(0, 0, 1), with the SLUG", yard.pull(0, 0, 1), 1);
        due.trace(yard, 1, 5, 5, 15, 16, 15);
        due.is("pull(2, 0, 1), by the SLUG", yard.pull(2, 0, 1), 1);
        due.is("part(2, 0)", yard.part(2, 0), 0);
        due.found("pull(2, 0, 1), a SLUG alone", yard, yard.pull(2, 0, 1), WEAK);
        due.trace(yard, 5, 16);
        due.of("23 pull, TRACE has 200");
        SwitchYard full = new SwitchYard();
        for (int i = 0; i < 3; i++) {
            full.track(24);
        }
        full.link(0, 1, 1, 0);
        full.link(1, 1, 2, 0);
        for (int i = 0; i < 71; i++) {
            full.wagon(2, i / 24, i % 24, 8, 1);
        }
        full.engine(false, 2, 23, 100);
        for (int i = 0; i < 71; i++) {
            due.is("couple", full.couple(i, 0), i + 1);
        }
        due.is("weigh(0)", full.weigh(0), 71 * 6 + 180);
        due.is("trace(0)", full.trace(0), 5);
        due.is("trace(199)", full.trace(199), 3);
        due.is("trace(200)", full.trace(200), NONE);
        due.found("pull(71, 0, 1)", full, full.pull(71, 0, 1), CLOSED);
    }

    private static void kick() {
        due.of("24 kick");
        SwitchYard yard = yard(9);
        yard.wagon(0, 0, 0, 4, 20);
        yard.wagon(3, 0, 2, 2, 14);
        yard.wagon(4, 0, 4, 0, 100);
        yard.wagon(0, 0, 5, 4, 20);
        yard.wagon(1, 0, 7, 8, 100);
        yard.engine(false, 0, 8, 50);
        for (int k = 0; k < 8; k++) {
            yard.table(k, 10 * k);
        }
        due.is("couple(2, 0)", yard.couple(2, 0), 3);
        due.found("kick(72, 9)", yard, yard.kick(72, 9), BEYOND);
        due.found("kick(6, 9)", yard, yard.kick(6, 9), NOTHING);
        due.found("kick(5, 9)", yard, yard.kick(5, 9), NOT_SUCH);
        due.found("kick(2, 9)", yard, yard.kick(2, 9), BEYOND);
        due.found("kick(2, 1)", yard, yard.kick(2, 1), COUPLED);
        due.found("kick(2, 0)", yard, yard.kick(2, 0), COUPLED);
        due.found("kick(3, 0)", yard, yard.kick(3, 0), COUPLED);
        due.is("kick(0, 0), 44", yard.kick(0, 0), 10);
        due.trace(yard, 12, 1);
        due.is("thing(0, 9)", yard.thing(0, 9), 10);
        due.found("kick(0, 1)", yard, yard.kick(0, 1), RUNS);
        due.trace(yard);
        due.is("count(-3)", yard.count(-3), 1);
        due.is("kick(1, 0), 40", yard.kick(1, 0), 10);
        due.trace(yard, 13, 12, 1);
        due.is("kick(4, 1), 208", yard.kick(4, 1), 50);
        due.trace(yard, 12, 2, 1);
        due.is("undo()", yard.undo(), 1);
        due.is("thing(4, 9)", yard.thing(4, 9), 0);
        due.is("count(-3)", yard.count(-3), 2);
        yard.load(4, 0, 20);
        for (int i = 0; i < 20; i++) {
            yard.piece(4, i, 0, 120);
        }
        due.is("kick(4, 1), at most 7", yard.kick(4, 1), 70);
        due.is("part(2, 0)", yard.part(2, 0), 3);
        yard.table(5, 0);
        due.is("kick(2, 0), 200, no D", yard.kick(2, 0), 0);
        due.trace(yard, 12, 4);
        due.is("finding(0)", yard.finding(0), 0);
        due.is("thing(2, 9)", yard.thing(2, 9), 0);
        due.is("count(-3)", yard.count(-3), 3);
    }

    private static void step() {
        due.of("25 step");
        SwitchYard yard = yard(4);
        yard.track(3);
        yard.link(0, 1, 1, 1);
        yard.wagon(0, 0, 1, 4, 20);
        yard.table(1, 5);
        due.found("at(9, 9)", yard, yard.at(9, 9), NOTHING);
        due.is("step(0)", yard.step(0), BAD);
        due.is("step(51)", yard.step(51), BAD);
        due.is("step(50), none RUNS", yard.step(50), 0);
        due.is("finding(0) is as it was", yard.finding(0), NOTHING);
        due.is("kick(0, 0)", yard.kick(0, 0), 5);
        due.is("step(1)", yard.step(1), 1);
        due.trace(yard, 12, 1);
        stands(yard, 0, 21);
        due.is("D", yard.thing(0, 9), 4);
        due.is("step(2)", yard.step(2), 1);
        stands(yard, 0, 120);
        due.is("D", yard.thing(0, 9), 2);
        due.is("step(9)", yard.step(9), 0);
        stands(yard, 0, 100);
        due.is("D", yard.thing(0, 9), 0);
        due.is("count(-4)", yard.count(-4), 0);
        due.is("kick(0, 1), back", yard.kick(0, 1), 5);
        due.is("step(50)", yard.step(50), 0);
        stands(yard, 0, 11);
        yard.table(1, 6);
        due.is("kick(0, 0)", yard.kick(0, 0), 6);
        due.is("step(5)", yard.step(5), 1);
        stands(yard, 0, 100);
        due.is("step(1), CLOSED", yard.step(1), 0);
        due.is("D", yard.thing(0, 9), 0);
        due.is("count(-4), no DAMP", yard.count(-4), 0);
        due.is("undo()", yard.undo(), 1);
        due.is("D", yard.thing(0, 9), 1);
        due.is("undo()", yard.undo(), 1);
        stands(yard, 0, 11);
        due.is("step(1), by the SIDE of the kick", yard.step(1), 1);
        stands(yard, 0, 21);
        due.is("log(0, 0)", yard.log(0, 0), 10);
    }

    private static void stepMeetsOthers() {
        due.of("25 step, others are ahead");
        SwitchYard yard = yard(8);
        yard.wagon(0, 0, 2, 4, 20);
        yard.wagon(0, 0, 3, 4, 20);
        yard.wagon(0, 0, 7, 4, 20);
        yard.table(1, 3);
        due.is("kick(0, 0)", yard.kick(0, 0), 3);
        due.is("kick(1, 0)", yard.kick(1, 0), 3);
        due.is("step(1)", yard.step(1), 2);
        stands(yard, 0, 21);
        stands(yard, 1, 41);
        due.is("D of 0, that stayed", yard.thing(0, 9), 2);
        due.is("step(2)", yard.step(2), 0);
        stands(yard, 0, 41);
        stands(yard, 1, 61);
        due.is("count(-4)", yard.count(-4), 0);
        due.is("kick(1, 0)", yard.kick(1, 0), 3);
        due.is("step(1), 2 does not RUN", yard.step(1), 0);
        due.is("count(-4)", yard.count(-4), 1);
        stands(yard, 1, 61);
        due.is("undo(), DAMPS are STATE", yard.undo(), 1);
        due.is("count(-4)", yard.count(-4), 0);

        due.of("25 step, in the order in which they began");
        SwitchYard first = yard(4);
        first.wagon(0, 0, 2, 4, 20);
        first.wagon(0, 0, 3, 4, 20);
        first.table(1, 2);
        due.is("kick(1, 0)", first.kick(1, 0), 2);
        due.is("kick(0, 0)", first.kick(0, 0), 2);
        due.is("step(1), 1 RUNS no more when 0 comes", first.step(1), 0);
        due.is("count(-4)", first.count(-4), 1);
        due.is("undo()", first.undo(), 1);
        due.is("undo()", first.undo(), 1);
        due.is("undo()", first.undo(), 1);
        due.is("kick(0, 0)", first.kick(0, 0), 2);
        due.is("kick(1, 0)", first.kick(1, 0), 2);
        due.is("step(1), 1 RUNS when 0 comes", first.step(1), 1);
        due.is("D of 0", first.thing(0, 9), 1);
        due.is("count(-4)", first.count(-4), 0);
        due.is("step(1)", first.step(1), 0);
        due.is("count(-4)", first.count(-4), 1);

        due.of("25 step, D ends where it stays");
        SwitchYard last = yard(4);
        last.wagon(0, 0, 1, 4, 20);
        last.wagon(3, 0, 2, 8, 40);
        last.table(1, 1);
        last.table(2, 3);
        due.is("kick(0, 0)", last.kick(0, 0), 1);
        due.is("kick(1, 0)", last.kick(1, 0), 3);
        due.is("count(-3)", last.count(-3), 2);
        due.found("couple(0, 1), D is 1", last, last.couple(0, 1), RUNS);
        due.is("step(1)", last.step(1), 1);
        stands(last, 0, 11);
        due.is("D of 0", last.thing(0, 9), 0);
        due.is("count(-4)", last.count(-4), 0);
    }

    private static void stepWhenOneStops() {
        due.of("25 step, those behind one that stops");
        SwitchYard yard = yard(9);
        yard.wagon(0, 0, 0, 4, 20);
        yard.wagon(0, 0, 3, 4, 20);
        yard.wagon(3, 0, 4, 8, 40);
        yard.table(1, 5);
        yard.table(2, 1);
        due.is("kick(0, 1)", yard.kick(0, 1), 5);
        due.is("kick(1, 0)", yard.kick(1, 0), 5);
        due.is("kick(2, 0)", yard.kick(2, 0), 1);
        due.is("step(1)", yard.step(1), 1);
        stands(yard, 0, 1);
        stands(yard, 1, 31);
        stands(yard, 2, 51);
        due.is("D of 1", yard.thing(1, 9), 4);
        due.is("step(1)", yard.step(1), 1);
        stands(yard, 1, 41);
        due.is("step(1), 2 RUNS no more", yard.step(1), 0);
        due.is("count(-4)", yard.count(-4), 1);
    }

    private static void test() {
        due.of("26 test");
        SwitchYard yard = yard(9);
        yard.wagon(4, 0, 0, 2, 9);
        yard.wagon(4, 0, 1, 2, 10);
        yard.wagon(2, 0, 3, 1, 3);
        yard.engine(true, 0, 4, 100);
        yard.wagon(0, 0, 6, 0, 9);
        due.found("test(72)", yard, yard.test(72), BEYOND);
        due.found("test(5)", yard, yard.test(5), NOTHING);
        due.is("test(0), 4 and 4", yard.test(0), 1);
        due.trace(yard, 9, 14, 4);
        due.is("TESTED", yard.thing(0, 10), 1);
        due.is("test(1), 4 and 5", yard.test(1), 0);
        due.is("TESTED", yard.thing(1, 10), 0);
        due.is("couple(0, 0)", yard.couple(0, 0), 1);
        due.is("test(0), one of two", yard.test(0), 1);
        due.is("TESTED", yard.thing(0, 10), 0);
        due.is("couple(2, 0)", yard.couple(2, 0), 3);
        due.is("test(2)", yard.test(2), 2);
        due.trace(yard, 11, 10, 14, 5, 7, 6, 14, 3, 2, 1);
        due.is("TESTED", yard.thing(2, 10), 1);
        due.is("TESTED", yard.thing(3, 10), 1);
        yard.load(2, 0, 1);
        yard.piece(2, 0, 0, 5);
        due.is("test(3), 12 and 14", yard.test(3), 1);
        due.is("none is TESTED any more", yard.thing(3, 10), 0);
        due.is("undo()", yard.undo(), 1);
        due.is("TESTED is STATE", yard.thing(3, 10), 1);
        due.found("test(4)", yard, yard.test(4), ZERO);
        due.trace(yard, 6, 14, 1);
        yard.wagon(0, 0, 2, 0, 9);
        due.is("couple(5, 0)", yard.couple(5, 0), 2);
        due.found("test(5)", yard, yard.test(5), ZERO);
        due.trace(yard, 11, 10, 14, 5, 7, 6, 14, 3, 2, 1, 6, 14, 1);
    }

    private static void leave() {
        due.of("27 leave");
        SwitchYard yard = yard(5);
        yard.engine(false, 0, 0, 50);
        yard.wagon(0, 0, 1, 4, 20);
        yard.wagon(0, 0, 4, 4, 20);
        due.found("leave(72)", yard, yard.leave(72), BEYOND);
        due.found("leave(3)", yard, yard.leave(3), NOTHING);
        due.found("leave(1)", yard, yard.leave(1), NOT_SUCH);
        due.found("leave(0)", yard, yard.leave(0), UNTESTED);
        due.is("test(0)", yard.test(0), 1);
        due.found("leave(0), no END leads out", yard, yard.leave(0), CLOSED);
        yard.exit(0, 1, true);
        due.found("leave(0), it stands at the other END", yard, yard.leave(0), CLOSED);
        yard.exit(0, 0, true);
        due.is("leave(0), by SIDE 1", yard.leave(0), 1);
        due.is("at(0, 0)", yard.at(0, 0), NONE);
        due.is("count(-2)", yard.count(-2), 2);
        due.is("count(-1)", yard.count(-1), 3);
        due.found("leave(0) again", yard, yard.leave(0), NOTHING);
        due.is("undo()", yard.undo(), 1);
        due.is("undo()", yard.undo(), 1);
        due.is("at(0, 0)", yard.at(0, 0), 0);
        due.is("couple(0, 0)", yard.couple(0, 0), 1);
        due.found("leave(0), coupled since", yard, yard.leave(0), UNTESTED);
        due.is("test(1)", yard.test(1), 2);
        due.is("pull(0, 0, 1)", yard.pull(0, 0, 1), 1);
        due.found("leave(0), neither is at an END", yard, yard.leave(0), CLOSED);
        due.is("pull(0, 1, 1)", yard.pull(0, 1, 1), 1);
        due.is("leave(0), by the last one", yard.leave(0), 2);
        due.is("at(0, 1)", yard.at(0, 1), NONE);
        due.is("undo()", yard.undo(), 1);
        due.is("meet(0, 0, 1), coupled again", yard.meet(0, 0, 1), 1);

        due.of("27 leave, by the first one");
        SwitchYard other = yard(3);
        other.exit(0, 1, true);
        other.engine(false, 0, 1, 50);
        other.wagon(0, 0, 2, 4, 20);
        other.couple(0, 0);
        other.test(0);
        due.is("leave(0)", other.leave(0), 2);
        SwitchYard one = yard(1);
        one.exit(0, 1, true);
        one.engine(false, 0, 0, 50);
        one.test(0);
        due.is("leave(0), alone by SIDE 0", one.leave(0), 1);
    }

    private static void roll() {
        due.of("28 roll");
        SwitchYard yard = yard(12);
        yard.engine(false, 0, 1, 50);
        yard.engine(true, 0, 2, 50);
        yard.wagon(0, 0, 4, 4, 20);
        due.found("roll(24, -1, -1)", yard, yard.roll(24, -1, -1), BEYOND);
        due.found("roll(1, -1, 1)", yard, yard.roll(1, -1, 1), NOTHING);
        due.found("roll(0, -1, 1)", yard, yard.roll(0, -1, 1), BEYOND);
        due.found("roll(0, 0, -1)", yard, yard.roll(0, 0, -1), BEYOND);
        due.found("roll(0, 5, 8)", yard, yard.roll(0, 5, 8), BEYOND);
        due.found("roll(0, 13, 0)", yard, yard.roll(0, 13, 0), BEYOND);
        due.found("roll(0, 0, 9)", yard, yard.roll(0, 0, 9), BEYOND);
        due.found("roll(0, MAX, 2)", yard, yard.roll(0, Integer.MAX_VALUE, 2), BEYOND);
        due.found("roll(0, 1, MAX)", yard, yard.roll(0, 1, Integer.MAX_VALUE), BEYOND);
        due.is("roll(0, 12, 0)", yard.roll(0, 12, 0), 0);
        due.is("roll(0, 1, 3)", yard.roll(0, 1, 3), 3);
        due.is("rolled(0)", yard.rolled(0), 0);
        due.is("rolled(1)", yard.rolled(1), 1);
        due.is("rolled(2)", yard.rolled(2), NONE);
        due.found("roll(0, 2, 4)", yard, yard.roll(0, 2, 4), STORE);
        due.is("rolled(0), it has come", yard.rolled(0), 1);
        due.is("rolled(1), NOTHING has come", yard.rolled(1), NONE);
        yard.store(0, 7);
        due.is("roll(0, 5, 7)", yard.roll(0, 5, 7), 7);
        due.is("rolled(0)", yard.rolled(0), NONE);
        due.is("rolled(7), behind the n", yard.rolled(7), 0);
        SwitchYard low = yard(8);
        low.engine(false, 0, 7, 50);
        due.is("roll(0, 0, 8)", low.roll(0, 0, 8), 8);
        due.is("rolled(7)", low.rolled(7), 0);
        due.is("count(-8), it does not keep", low.count(-8), 0);
    }

    private static void store() {
        due.of("29 store");
        SwitchYard yard = yard(4);
        yard.engine(true, 0, 0, 50);
        yard.wagon(0, 0, 1, 4, 20);
        due.found("store(72, 9)", yard, yard.store(72, 9), BEYOND);
        due.found("store(2, 9)", yard, yard.store(2, 9), NOTHING);
        due.found("store(1, 8)", yard, yard.store(1, 8), BEYOND);
        due.found("store(1, -1)", yard, yard.store(1, -1), BEYOND);
        due.found("store(1, 7)", yard, yard.store(1, 7), STORE);
        due.is("store(0, 7)", yard.store(0, 7), 1);
        due.is("store(0, 0)", yard.store(0, 0), 1);
        due.is("rolled(7)", yard.rolled(7), 0);
        due.is("rolled(6)", yard.rolled(6), NONE);
        due.is("count(-8), it does not keep", yard.count(-8), 0);
    }

    private static void whoLeftIsNothing() {
        due.of("2 who left");
        SwitchYard yard = yard(3);
        yard.exit(0, 0, true);
        yard.engine(false, 0, 0, 50);
        yard.wagon(1, 0, 1, 4, 20);
        yard.couple(0, 0);
        yard.store(0, 3);
        yard.test(0);
        due.is("leave(0)", yard.leave(0), 2);
        due.found("thing(1, 0)", yard, yard.thing(1, 0), NOTHING);
        due.found("pull(0, 5, 1)", yard, yard.pull(0, 5, 1), NOTHING);
        due.found("kick(1, 5)", yard, yard.kick(1, 5), NOTHING);
        due.found("NOT SUCH comes ahead", yard, yard.pull(1, 5, 1), NOT_SUCH);
        due.found("store(0, 0)", yard, yard.store(0, 0), NOTHING);
        due.is("rolled(3), also if it left", yard.rolled(3), 0);
        due.is("wagon, where it stood", yard.wagon(0, 0, 0, 4, 20), 2);
        due.is("digest()", yard.digest(), digest(7, -1, -1, 0, 1, NONE, NONE, NONE, 0, 0, 0, 0));
        due.is("undo(), forgotten", yard.undo(), 0);
        due.is("FOUND acts keep", yard.jam(0, 1), FOUND);
        due.is("count(-8)", yard.count(-8), 1);
    }

    private static long digest(long first, int... numbers) {
        long d = first;
        for (int number : numbers) {
            d = 31 * d + number;
        }
        return d;
    }
}
