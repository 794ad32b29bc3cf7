/** Each sentence of promises 30 to 45 that names a boundary case. */
final class AskingEdgesTest {
    private static final Script script = new Script();

    /** One of each KIND, by its number, from PLACE 0 on. */
    private static final String KINDS = """
            track(12); 5 x wagon(i, 0, i, 4, 10); engine(false, 0, 5, 30); engine(true, 0, 6, 40)
            """;

    public static void main(String[] args) {
        rolledAndAt();
        thing();
        pointed();
        ask();
        meet();
        weigh();
        share();
        consist();
        finding();
        findingOfOtherCalls();
        count();
        trace();
        undo();
        back();
        digest();
        log();
        script.end();
    }

    private static void rolledAndAt() {
        script.each("30", "FOUND: BEYOND", KINDS + "rolled(I) = BEYOND", "I", "MIN", "-1", "8", "MAX");
        script.sentence("30", "NONE", KINDS + """
                rolled(0) = NONE; rolled(7) = NONE; finding(0) = 0; store(5, 7); rolled(7) = 5; rolled(6) = NONE
                """);
        script.sentence("30", "(also if it left)", """
                track(1); exit(0, 0, true); engine(false, 0, 0, 4); store(0, 2); test(0); leave(0) = 1; rolled(2) = 0
                at(0, 0) = NONE
                store(0, 2) = NOTHING; rolled(2) = 0; roll(0, 0, 1); rolled(0) = NONE; rolled(2) = 0
                """);
        script.sentence("31", "What stands at a PLACE; NONE", KINDS + """
                7 x at(0, i) = i; at(0, 7) = NONE; at(0, 11) = NONE
                """);
        script.sentence("31", "FOUND: the TRACK, the PLACE", KINDS + """
                at(0, 12) = BEYOND; at(0, -1) = BEYOND; at(1, 0) = NOTHING; at(1, -1) = NOTHING; at(24, 0) = BEYOND
                at(-1, 0) = BEYOND
                """);
    }

    private static void thing() {
        script.each("32", "BAD: what", KINDS + "thing(0, W) = BAD; thing(99, W) = BAD", "W", "MIN", "-1", "11", "MAX");
        script.sentence("32", "what is coupled to SIDE 0, SIDE 1 (4, 5; NONE)", KINDS + """
                thing(2, 4) = NONE; thing(2, 5) = NONE; couple(2, 0); couple(2, 1); thing(2, 4) = 3; thing(2, 5) = 1
                thing(3, 4) = NONE; thing(1, 5) = NONE
                """);
        script.sentence("32", "FAULT (7; NONE), JAM (8)", KINDS + """
                thing(0, 7) = NONE; thing(0, 8) = 0; hold(0, 0); jam(0, 50); thing(0, 7) = 0; thing(0, 8) = 50
                """);
        script.sentence("32", "D (9; 0: it does not RUN)", KINDS + """
                table(0, 3); 7 x thing(i, 9) = 0; kick(0, 1) = 3; thing(0, 9) = 3; step(1) = 0; thing(0, 9) = 0
                """);
        script.sentence("32", "whether it is TESTED (10)", KINDS + """
                7 x thing(i, 10) = 0; test(5) = 1; thing(5, 10) = 1; thing(6, 10) = 0
                """);
        script.sentence("32", "KIND, TRACK, PLACE", """
                24 x track(24); 5 x wagon(i, 23, i, 4, 10); engine(false, 23, 23, 1); engine(true, 0, 23, 1)
                7 x thing(i, 0) = i
                thing(4, 1) = 23; thing(4, 2) = 4; thing(5, 2) = 23; thing(6, 1) = 0; thing(6, 2) = 23
                """);
        script.sentence("32", "FOUND: the THING", KINDS + """
                thing(7, 0) = NOTHING; thing(71, 10) = NOTHING; thing(72, 0) = BEYOND; thing(-1, 0) = BEYOND
                """);
    }

    private static void pointed() {
        String yard = "4 x track(2); point(3, 1); point(0, 0); link(3, 1, 0, 0); "
                + "link(3, 1, 1, 0); link(3, 1, 2, 0); route(); route()\n";
        script.each("33", "BAD: what", yard + """
                pointed(0, W) = BAD; pointed(99, W) = BAD
                """, "W", "MIN", "-1", "5", "MAX");
        script.sentence("33", "TRACK (0), END (1), how many LINKS (2), SET (3)", yard + """
                pointed(0, 0) = 3; pointed(0, 1) = 1; pointed(0, 2) = 3; pointed(0, 3) = 0; pointed(1, 0) = 0
                pointed(1, 1) = 0
                pointed(1, 2) = 1; turn(0, 2); pointed(0, 3) = 2; point(1, 1); pointed(2, 2) = 0; pointed(2, 3) = 0
                """);
        script.sentence("33", "the ROUTE that locks it (4; NONE)", yard + """
                pointed(0, 4) = NONE; via(1, 0, 0, 0); pointed(0, 4) = NONE; lock(1); pointed(0, 4) = 1
                pointed(1, 4) = NONE
                free(1); pointed(0, 4) = NONE
                """);
        script.sentence("33", "FOUND: the POINT", yard + """
                pointed(2, 0) = NOTHING; pointed(40, 0) = BEYOND; pointed(-1, 0) = BEYOND
                """);
    }

    private static void ask() {
        script.each("34", "BAD: what", KINDS + "ask(0, W) = BAD; ask(99, W) = BAD", "W", "MIN", "-1", "8", "MAX");
        script.sentence("34", "LOAD's pieces' number (6: a FLAT; NOTHING: it has no LOAD)", KINDS + """
                ask(0, 6) = NOTHING; load(0, 0, 0); ask(0, 6) = 0; load(0, 1, 20); ask(0, 6) = 20; load(4, 0, 3)
                ask(4, 6) = NOT_SUCH
                ask(5, 6) = NOT_SUCH; ask(7, 6) = NOTHING
                """);
        script.sentence("34", "PULLS (4: WANTED AS an ENGINE), DANGER (5: a WAGON)", KINDS + """
                ask(4, 4) = NOT_SUCH; ask(5, 4) = 30; ask(5, 5) = NOT_SUCH; ask(4, 5) = 0; ask(6, 5) = NOT_SUCH; trace =
                """);
        script.sentence("34", "7: WANTED AS a COLD: its AXLES", KINDS + """
                ask(2, 7) = 4; trace =; ask(1, 7) = NOT_SUCH; wagon(2, 0, 9, 0, 9); ask(7, 7) = 0
                """);
        script.sentence("34", "FOUND: .. ZERO", """
                track(2); wagon(1, 0, 0, 0, 9); ask(0, 3) = ZERO; ask(0, 0) = 9; ask(0, 1) = 0; ask(0, 2) = 18
                finding(0) = 0
                """);
    }

    private static void meet() {
        String yard = "track(6); 4 x wagon(0, 0, i, 4, 10); couple(0, 0); couple(1, 0)\n";
        script.each("35", "BAD: n is not 0 .. 100", yard + """
                meet(0, 0, N) = BAD; meet(9, 9, N) = BAD
                """, "N", "MIN", "-1", "101", "MAX");
        script.sentence("35", "Going on n times", yard + """
                meet(0, 0, 0) = 0; meet(0, 1, 0) = 0; meet(0, 0, 1) = 1; meet(0, 0, 2) = 2; meet(2, 1, 2) = 0
                meet(1, 0, 1) = 2
                meet(1, 1, 1) = 0
                """);
        script.sentence("35", "NOTHING: there is none where one goes on", yard + """
                meet(0, 0, 3) = NOTHING; meet(0, 0, 100) = NOTHING; meet(0, 1, 1) = NOTHING; meet(3, 0, 1) = NOTHING
                meet(2, 1, 3) = NOTHING; meet(3, 1, 0) = 3
                """);
        script.sentence("35", "n (the farthest)", """
                3 x track(24); link(0, 1, 1, 0); link(1, 1, 2, 0); 72 x wagon(0, i/24, i%24, 4, 10)
                71 x couple(i, 0) = i+1
                meet(0, 0, 71) = 71; meet(71, 1, 71) = 0; meet(0, 0, 72) = NOTHING; meet(0, 0, 100) = NOTHING
                consist(35, 0) = 71
                consist(35, 71) = 0; consist(35, 72) = NONE
                """);
        script.sentence("35", "FOUND: the THING, the SIDE", yard + """
                meet(4, 9, 0) = NOTHING; meet(72, 0, 0) = BEYOND; meet(0, 2, 0) = BEYOND; meet(0, -1, 0) = BEYOND
                """);
    }

    private static void weigh() {
        script.sentence("36", "The sum of WEIGHT of its CONSIST, in ORDER", KINDS + """
                couple(2, 0); couple(2, 1); weigh(2) = 35; trace = 1 3 2 1 2 1
                weigh(1) = 35; weigh(0) = 10; trace = 1
                weigh(6) = 120; trace = 5
                """);
        script.sentence("36", "FOUND: the THING", KINDS + "weigh(7) = NOTHING; weigh(72) = BEYOND; weigh(-1) = BEYOND");
    }

    private static void share() {
        script.sentence("37", "100 times the sum of BRAKE .. by the sum of AXLES, rounded down", """
                track(6); wagon(2, 0, 0, 3, 10); engine(true, 0, 1, 9); share(0) = 466; trace = 7 6
                share(1) = 875; trace = 11 10
                couple(0, 0); share(0) = 700; trace = 11 10 7 6
                """);
        script.sentence("37", "FOUND: .. ZERO (the sum of AXLES is)", """
                track(6); wagon(2, 0, 0, 0, 10); wagon(0, 0, 1, 0, 10); wagon(4, 0, 2, 1, 10); share(0) = ZERO
                trace = 7 6
                couple(0, 0); share(1) = ZERO; trace = 6 7 6
                couple(1, 0); share(0) = 300; share(2) = 300
                """);
        script.sentence("37", "FOUND: the THING", KINDS + "share(7) = NOTHING; share(72) = BEYOND; share(-1) = BEYOND");
    }

    private static void consist() {
        script.each("38", "BAD: k is below 0", KINDS + "consist(0, K) = BAD; consist(99, K) = BAD", "K", "MIN", "-1");
        script.sentence("38", "The k-th .., in ORDER; NONE", KINDS + """
                couple(0, 0); consist(0, 0) = 1; consist(0, 1) = 0; consist(0, 2) = NONE; consist(0, MAX) = NONE
                consist(3, 1) = NONE
                finding(0) = 0
                """);
        script.sentence("38", "FOUND: the THING", KINDS + """
                consist(7, 0) = NOTHING; consist(72, 0) = BEYOND; consist(-1, 0) = BEYOND
                """);
    }

    private static void finding() {
        script.each("39", "BAD", "finding(W) = BAD", "W", "MIN", "-1", "4", "MAX");
        script.sentence("39", "(what = 0; 0: none)", KINDS + """
                finding(0) = 0; at(9, 0) = NOTHING; at(0, 0) = 0; finding(0) = 0
                """);
        script.sentence("39", "the FAULT of HELD (1; else NONE)", KINDS + """
                finding(1) = NONE; hold(0, 0); raise(0) = HELD; finding(1) = 0; raise(1) = NONE_HELD; finding(1) = NONE
                hold(5, 999)
                jam(5, 1); couple(5, 0); couple(6, 0) = NOTHING; pull(5, 0, 2) = HELD; finding(1) = 999
                raise(99) = BEYOND
                finding(1) = NONE
                """);
        script.sentence("39", "whole STEPS of pull() (2; else 0)", KINDS + """
                finding(2) = 0; couple(5, 0); pull(5, 0, 3) = 3; finding(2) = 3; at(0, 0) = 0; finding(2) = 0
                pull(5, 0, 9) = CLOSED; finding(2) = 2; hold(0, 1); finding(2) = 0; pull(5, 9, 9) = BEYOND
                finding(2) = 0
                """);
        script.sentence("39", "LOCKED: the ROUTE (3; else NONE)", """
                2 x track(2); point(0, 0); link(0, 0, 0, 1); link(0, 0, 1, 0); 12 x route(); via(11, 0, 1, 0)
                via(3, 0, 0, 0)
                finding(3) = NONE; lock(11) = 1; lock(3) = LOCKED; finding(3) = 11; turn(0, 0) = LOCKED; finding(3) = 11
                free(3) = 0; finding(3) = NONE; free(11) = 1; lock(3) = 1; turn(0, 1) = LOCKED; finding(3) = 3
                turn(0, 2) = BEYOND
                finding(3) = NONE; point(1, 0); via(3, 1, 0, 0) = LOCKED; finding(3) = 3
                """);
    }

    private static void findingOfOtherCalls() {
        script.each("39", "Of the latest of those calls that may be FOUND and was not BAD, FULL", """
                track(4); wagon(0, 0, 0, 0, 10); ask(0, 3) = ZERO; CALL; finding(0) = 6; trace = 14 1
                """, "CALL", "bar(0, 0, true)", "table(0, 0)", "route()", "step(1)", "undo() = 0", "back() = 0",
                "digest()",
                "log(0, 0)", "count(1)", "trace(0)", "finding(0)", "room(0, 5)", "lay(true, 0, 0)", "wipe()", "plan(0)",
                "plan(1)", "move(0, 0)", "bound()", "proof(0)", "spoil(0, 0)", "check()", "track(0) = BAD",
                "hold(0, -1) = BAD", "ask(0, 9) = BAD", "lay(true, 9, 0) = BAD");
        script.each("39", ".. those calls that may be FOUND (also where they are not)", """
                track(4); track(2); engine(false, 0, 1, 50); wagon(0, 0, 0, 0, 10); point(0, 1); link(0, 1, 1, 0)
                route()
                ask(1, 3) = ZERO; CALL; finding(0) = 0
                """, "CALL", "track(1)", "point(0, 0)", "link(0, 0, 1, 1)", "exit(0, 0, true)", "wagon(0, 0, 3, 4, 20)",
                "engine(true, 0, 3, 0)", "via(0, 0, 0, 0)", "load(1, 0, 1)", "danger(1, 1)", "hold(0, 1)", "jam(0, 1)",
                "turn(0, 0)", "lock(0)", "free(0)", "couple(0, 1)", "pull(0, 0, 1)", "kick(1, 0)", "test(0)",
                "roll(0, 1, 1)", "store(0, 0)", "rolled(0)", "at(0, 0)", "thing(0, 0)", "pointed(0, 0)", "ask(0, 0)",
                "meet(0, 0, 0)", "weigh(0)", "share(0)", "consist(0, 0)");
        script.each("39", ".. those calls that may be FOUND (each of them)", """
                track(4); wagon(0, 0, 0, 0, 10); ask(0, 3) = ZERO; CALL; trace =
                """, "CALL", "track(-1) = SIZE", "point(9, 0) = NOTHING", "link(9, 0, 9, 0) = NOTHING",
                "exit(9, 0, true) = NOTHING", "wagon(0, 9, 0, 4, 20) = NOTHING", "engine(true, 9, 0, 0) = NOTHING",
                "via(0, 0, 0, 0) = NOTHING", "load(9, 0, 1) = NOTHING", "piece(0, 0, 0, 1) = NOTHING",
                "danger(9, 1) = NOTHING",
                "hold(9, 1) = NOTHING", "jam(9, 1) = NOTHING", "raise(0) = NONE_HELD", "turn(0, 0) = NOTHING",
                "lock(0) = NOTHING", "free(0) = NOTHING", "couple(0, 0) = NOTHING", "part(0, 0) = NOTHING",
                "pull(0, 0, 1) = NOT_SUCH", "kick(9, 0) = NOTHING", "test(9) = NOTHING", "leave(0) = NOT_SUCH",
                "roll(0, 0, 1) = STORE", "store(0, 0) = STORE", "rolled(8) = BEYOND", "at(0, 4) = BEYOND",
                "thing(72, 0) = BEYOND", "pointed(0, 0) = NOTHING", "ask(0, 7) = NOT_SUCH", "meet(0, 0, 1) = NOTHING",
                "weigh(9) = NOTHING", "share(9) = NOTHING", "consist(9, 0) = NOTHING");
    }

    private static void count() {
        script.each("40", "BAD", "count(K) = BAD", "K", "MIN", "-11", "-10", "18", "19", "MAX");
        script.sentence("40", "FINDINGS of kind k (1 .. 17) ever", """
                track(6); track(2); wagon(4, 0, 0, 0, 10); wagon(1, 0, 1, 4, 10); engine(false, 0, 3, 0); point(0, 1)
                link(0, 1, 1, 0); link(0, 1, 1, 1); wagon(0, 0, 5, 4, 20); route(); via(0, 0, 0, 0); table(1, 9)
                thing(9, 0) = NOTHING; ask(0, 7) = NOT_SUCH; at(0, 9) = BEYOND; store(0, 0) = STORE; track(-1) = SIZE
                ask(0, 3) = ZERO; raise(0) = NONE_HELD; hold(0, 1); raise(0) = HELD; wagon(0, 0, 0, 4, 20) = TAKEN
                couple(0, 1) = CLOSED; turn(0, 1) = UNDER; lock(0) = 1; turn(0, 1) = LOCKED; couple(0, 0) = BARRED
                pull(2, 0, 1) = WEAK; kick(3, 1) = 9; kick(3, 1) = RUNS; leave(2) = UNTESTED; wagon(0, 0, 2, 4, 10)
                couple(1, 0) = 4; couple(1, 0) = COUPLED; 17 x count(i+1) = 1; undo(); undo(); undo()
                17 x count(i+1) = 1; thing(9, 0) = NOTHING; count(1) = 2; leave(2) = UNTESTED; count(17) = 2
                count(16) = 1
                """);
        script.sentence("40", "0 TRACKS, -1 THINGS made, -2 THINGS there", """
                count(0) = 0; 3 x track(2); count(0) = 3; exit(0, 0, true); engine(false, 0, 0, 4); wagon(0, 0, 1, 4, 9)
                count(-1) = 2
                count(-2) = 2; test(0); leave(0) = 1; count(-1) = 2; count(-2) = 1; undo(); count(-1) = 2; count(-2) = 2
                """);
        script.sentence("40", "-3 those that RUN, -4 DAMPS", """
                track(9); table(1, 2); wagon(0, 0, 0, 4, 20); wagon(0, 0, 4, 4, 20); wagon(0, 0, 7, 4, 20)
                count(-3) = 0; kick(0, 0)
                kick(1, 0); count(-3) = 2; step(1); count(-3) = 2; step(1); count(-3) = 0; count(-4) = 0; kick(1, 0)
                step(1)
                count(-4) = 1; undo(); count(-4) = 0; count(-3) = 1
                """);
        script.sentence("40", "-5 SERIALS given, -6 POINTS, -7 ROUTES", """
                track(3); count(-5) = 0; wagon(0, 0, 0, 4, 20); wagon(0, 0, 1, 4, 20); couple(0, 0); count(-5) = 3
                part(0, 0)
                count(-5) = 5; undo(); undo(); count(-5) = 5; point(0, 0); point(0, 1); count(-6) = 2; route()
                count(-7) = 1
                """);
        script.sentence("40", "-8 STATES that undo() may give back, -9 that back() may", """
                track(3); wagon(0, 0, 0, 4, 20); 9 x hold(0, i); count(-8) = 8; count(-9) = 0; 3 x undo(); count(-8) = 5
                count(-9) = 3
                back(); count(-8) = 6; count(-9) = 2; hold(0, 1); count(-8) = 7; count(-9) = 0; table(0, 0)
                count(-8) = 0
                """);
    }

    private static void trace() {
        script.each("41", "BAD: k is below 0", "trace(K) = BAD", "K", "MIN", "-1");
        script.sentence("41", "NONE", KINDS + """
                trace(0) = NONE; trace(MAX) = NONE; ask(0, 0); trace(0) = 1; trace(1) = NONE; trace(199) = NONE
                """);
        // Each COLD tells 3 bodies, so 66 of them tell 198, and the 67th tells 2 more of its 3.
        script.sentence("41", "(200 at most, later ones are lost)", """
                3 x track(24); link(0, 1, 1, 0); link(1, 1, 2, 0); 66 x wagon(2, i/24, i%24, 4, 10); 65 x couple(i, 0)
                weigh(0) = 990; trace(197) = 1; trace(198) = NONE; wagon(2, 2, 18, 4, 10); couple(65, 0) = 66
                weigh(0) = 1005
                trace(0) = 3; trace(197) = 1; trace(198) = 3; trace(199) = 2; trace(200) = NONE; trace(MAX) = NONE
                """);
        script.sentence("41", "TRACE .. of the latest of those calls", KINDS + """
                ask(2, 0); trace = 3 2 1; ask(0, 1); trace = 6; at(0, 0); trace =
                """);
    }

    private static void undo() {
        String yard = "track(4); wagon(0, 0, 0, 4, 20)\n";
        script.sentence("42", "0: none is kept", yard + """
                undo() = 0; hold(0, 1); undo() = 1; undo() = 0; count(-9) = 1; thing(0, 7) = NONE
                """);
        script.sentence("42", "STATE as it was ahead of the latest of the ACTS kept; it is kept no more", yard + """
                hold(0, 1); hold(0, 2); hold(0, 3); undo() = 1; thing(0, 7) = 2; count(-8) = 2; undo() = 1
                thing(0, 7) = 1
                undo() = 1; thing(0, 7) = NONE; undo() = 0
                """);
        script.sentence("42", "the one as it was is kept for back()", yard + """
                hold(0, 1); undo(); count(-9) = 1; back() = 1; thing(0, 7) = 1
                """);
        script.sentence("42", "(the latest 8, going round)", yard + """
                20 x hold(0, i); 8 x undo() = 1; undo() = 0; thing(0, 7) = 11; 8 x back() = 1; back() = 0
                thing(0, 7) = 19
                3 x undo(); 5 x jam(0, i+1); count(-8) = 8; 8 x undo() = 1; undo() = 0; thing(0, 7) = 13
                thing(0, 8) = 0
                8 x back() = 1; thing(0, 7) = 16; thing(0, 8) = 5
                """);
        script.sentence("42", "(SERIALS go on.)", """
                track(4); wagon(0, 0, 0, 4, 20); wagon(0, 0, 1, 4, 20); couple(0, 0); thing(0, 6) = 3; undo()
                thing(0, 6) = 1
                count(-5) = 3; couple(0, 0); thing(0, 6) = 4; undo(); wagon(0, 0, 2, 4, 20); thing(2, 6) = 5
                """);
        script.sentence("42", "(FINDING, TRACE, counts and the log are not undone)", yard + """
                hold(9, 1) = NOTHING; undo() = 1; finding(0) = 1; count(1) = 1; log(0, 0) = 1; log(0, 1) = FOUND
                """);
    }

    private static void back() {
        String yard = "track(4); wagon(0, 0, 0, 4, 20); engine(false, 0, 1, 4)\n";
        script.sentence("43", "0", yard + "back() = 0; hold(0, 1); back() = 0; undo(); back() = 1; back() = 0");
        script.sentence("43", "the latest undo() that was not taken back", yard + """
                hold(0, 1); hold(0, 2); undo(); undo(); back() = 1; thing(0, 7) = 1; undo(); back() = 1; back() = 1
                thing(0, 7) = 2
                """);
        script.each("43", "if no ACT that keeps (not BAD) .. came since", yard + """
                hold(0, 1); undo(); ACT; back() = 0; count(-9) = 0
                """, "ACT", "danger(0, 1)", "hold(0, 1)", "jam(0, 1)", "turn(0, 0) = NOTHING", "lock(0) = NOTHING",
                "free(0) = NOTHING", "couple(0, 0)", "part(0, 0) = NOTHING", "pull(1, 0, 1) = WEAK", "kick(0, 0)",
                "step(1)", "test(0)", "leave(1) = UNTESTED");
        script.each("43", "if .. nothing that forgets, came since", yard + """
                hold(0, 1); undo(); ACT; back() = 0; count(-9) = 0
                """, "ACT", "track(1)", "point(0, 0)", "link(0, 0, 0, 1)", "exit(0, 0, false)",
                "wagon(0, 0, 2, 4, 20)", "engine(true, 0, 2, 0)", "bar(0, 0, false)", "table(0, 0)", "route()");
        script.each("43", "(what neither keeps nor forgets)", yard + """
                hold(0, 1); undo(); ACT; back() = 1; thing(0, 7) = 1
                """, "ACT", "raise(0) = NONE_HELD", "load(0, 0, 1)", "piece(0, 0, 0, 0) = NOTHING", "roll(0, 1, 1)",
                "store(1, 0)", "rolled(0)", "hold(0, 1000) = BAD", "jam(0, 51) = BAD", "step(0) = BAD",
                "danger(0, 10) = BAD", "pull(1, 0, 0) = BAD", "track(-1) = SIZE", "digest()", "undo() = 0");
        script.sentence("43", "(the STATE that it leaves is kept for undo() again)", yard + """
                hold(0, 1); hold(0, 2); undo(); back() = 1; count(-8) = 2; undo() = 1; thing(0, 7) = 1; undo() = 1
                thing(0, 7) = NONE
                """);
    }

    private static void digest() {
        script.sentence("44", "from 7 on (nothing was made)", "digest() = 7; track(4); route(); digest() = 7");
        script.sentence("44", "-1 alone, if it left", """
                track(1); exit(0, 0, true); engine(false, 0, 0, 4); test(0); leave(0); digest() = 216; undo()
                hold(0, 1)
                """);
        // 7 * 31 + 0 = 217, then SET 0 and NONE; 31 * (31 * 7 + 0) - 4.
        script.sentence("44", "then for each POINT SET and its ROUTE. (NONE is -4.)", """
                track(1); point(0, 0); digest() = 6723; link(0, 0, 0, 1); route(); via(0, 0, 0, 0); lock(0)
                digest() = 6727
                """);
        // 31 * (31 * 7 + 1) - 4, then 31 * (31 * 7 + 1) + 3.
        script.sentence("44", "then for each POINT SET and its ROUTE (others than 0)", """
                track(1); track(1); point(0, 0); link(0, 0, 0, 1); link(0, 0, 1, 0); 4 x route(); via(3, 0, 1, 0)
                turn(0, 1); digest() = 6754; lock(3) = 1; digest() = 6761
                """);
        script.sentence("44", "going round", """
                track(1); wagon(0, 0, 0, 4, 20); digest() = WANT
                """.replace("WANT", Long.toString(folded(0, 1, -4, -4, -4, 0, 0, 0, 0))));
        script.sentence("44", "(of an ENGINE 0), TESTED (1, 0)", """
                track(3); engine(false, 0, 2, 4); test(0); hold(0, 999); jam(0, 50); digest() = WANT
                """.replace("WANT", Long.toString(folded(2, 1, -4, -4, 999, 50, 0, 0, 1))));
        script.sentence("44", "24 times TRACK and PLACE (one number) .. D, DANGER", """
                24 x track(24); wagon(4, 23, 23, 4, 20); wagon(3, 23, 22, 4, 20); table(1, 99); danger(1, 9); kick(1, 1)
                digest() = WANT
                """.replace("WANT",
                Long.toString(folded(575, 1, -4, -4, -4, 0, 0, 0, 0, 574, 1, -4, -4, -4, 0, 99, 9, 0))));
        script.sentence("44", "what is coupled to SIDE 0, SIDE 1", """
                track(3); 3 x wagon(0, 0, i, 4, 20); couple(1, 0); couple(1, 1); digest() = WANT
                """.replace("WANT", Long.toString(folded(0, 1, 1, -4, -4, 0, 0, 0, 0, 1, 1, 2, 0, -4, 0, 0, 0, 0,
                2, 1, -4, 1, -4, 0, 0, 0, 0))));
    }

    private static long folded(int... numbers) {
        long d = 7;
        for (int number : numbers) {
            d = 31 * d + number;
        }
        return d;
    }

    private static void log() {
        String yard = "track(4); wagon(0, 0, 0, 4, 20)\n";
        script.each("45", "BAD", yard + """
                hold(0, 1); log(K, 0) = BAD; log(0, K) = BAD; log(K, K) = BAD
                """, "K", "MIN", "-1");
        script.each("45", "BAD", yard + "hold(0, 1); log(0, W) = BAD; log(99, W) = BAD", "W", "2", "MAX");
        script.sentence("45", "NONE", yard + """
                log(0, 0) = NONE; log(0, 1) = NONE; hold(0, 1); log(0, 0) = 1; log(0, 1) = NONE; log(1, 0) = NONE
                log(MAX, 0) = NONE
                """);
        script.sentence("45", "Of the latest 40 ACTS that keep", yard + """
                40 x jam(0, i+1); log(39, 1) = 0; log(40, 1) = NONE; jam(0, 50); log(0, 1) = 40; log(39, 1) = 1
                log(40, 1) = NONE
                log(40, 0) = NONE; 100 x danger(0, i%10); log(39, 0) = 0; log(0, 1) = 8; log(40, 0) = NONE
                """);
        script.sentence("45", "that keep (no others)", yard + """
                hold(0, 7); raise(0) = HELD; hold(0, 1000) = BAD; store(0, 0) = STORE; load(0, 0, 1); step(0) = BAD
                at(0, 0)
                log(0, 0) = 1; log(1, 0) = NONE; step(1); log(0, 0) = 10; log(1, 0) = 1
                """);
        script.sentence("45", "its number in the list of 3 (danger() 0, .. leave() 12; what = 0), its answer (1)", """
                track(4); track(2); wagon(0, 0, 0, 4, 20); engine(false, 0, 1, 50); exit(0, 1, true); point(0, 0)
                link(0, 0, 1, 0); link(0, 0, 1, 1); route(); via(0, 0, 0, 0)
                danger(0, 3) = 0; hold(0, 4) = NONE; jam(0, 5) = 0; turn(0, 0) = 0; lock(0) = 1; free(0) = 1
                couple(0, 0) = 1; part(0, 0) = 1; pull(1, 0, 2) = 2; kick(0, 0) = 0; step(1) = 0; test(1) = 1
                leave(1) = 1
                log(12, 0) = 0; log(11, 0) = 1; log(10, 0) = 2; log(9, 0) = 3; log(8, 0) = 4; log(7, 0) = 5
                log(6, 0) = 6
                log(5, 0) = 7; log(4, 0) = 8; log(3, 0) = 9; log(2, 0) = 10; log(1, 0) = 11; log(0, 0) = 12
                log(12, 1) = 0; log(11, 1) = NONE; log(10, 1) = 0; log(9, 1) = 0; log(8, 1) = 1; log(7, 1) = 1
                log(6, 1) = 1
                log(5, 1) = 1; log(4, 1) = 2; log(3, 1) = 0; log(2, 1) = 0; log(1, 1) = 1; log(0, 1) = 1
                log(13, 0) = NONE; log(13, 1) = NONE
                """);
        script.sentence("45", "its answer (also FOUND)", yard + """
                hold(9, 1) = NOTHING; log(0, 0) = 1; log(0, 1) = FOUND
                """);
        script.sentence("45", "(What was undone stays.)", yard + """
                hold(0, 7); jam(0, 3); undo(); undo(); log(0, 0) = 2; log(1, 0) = 1; back(); log(0, 0) = 2
                log(2, 0) = NONE
                """);
        script.sentence("45", "(what forgets leaves it)", yard + """
                hold(0, 7); table(0, 0); log(0, 0) = 1; log(0, 1) = NONE; hold(0, 8); log(0, 1) = 7
                """);
    }
}
