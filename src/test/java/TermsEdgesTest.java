/** Each sentence of "Terms" that names a boundary case, parts 1 to 3; those of part 4 stand in PlansEdgesTest. */
final class TermsEdgesTest {
    private static final Script script = new Script();
    private static final String[] OUTSIDE_TRACKS = {"MIN", "-1", "24", "MAX"};
    private static final String[] OUTSIDE_POINTS = {"MIN", "-1", "40", "MAX"};
    private static final String[] OUTSIDE_ROUTES = {"MIN", "-1", "12", "MAX"};
    private static final String[] OUTSIDE_THINGS = {"MIN", "-1", "72", "MAX"};
    private static final String[] OUTSIDE_SIDES = {"MIN", "-1", "2", "MAX"};

    /** As many of all as there may be: WAGONS without AXLES on TRACKS 0 to 2. */
    private static final String FULL_YARD = """
            24 x track(24); 40 x point(i/2, i%2); 12 x route(); 72 x wagon(0, i/24, i%24, 0, 20)
            """;

    /** One of each KIND, by its number, from PLACE 0 on. */
    private static final String KINDS = """
            track(12); 5 x wagon(i, 0, i, 4, 10); engine(false, 0, 5, 30); engine(true, 0, 6, 40)
            """;

    public static void main(String[] args) {
        answers();
        tracksAndPoints();
        theNextPlace();
        closed();
        namesOfTracks();
        namesOfPointsAndRoutes();
        theOrderOfNames();
        newThings();
        namesOfThings();
        wantedAs();
        sides();
        weights();
        brakes();
        heavyAndPerAxle();
        pulls();
        suits();
        consists();
        stepsGo();
        stepsJam();
        stepsLook();
        routes();
        whatIsState();
        whatKeeps();
        whatForgets();
        script.end();
    }

    private static void answers() {
        String bad = """
                track(0) = BAD; point(99, 2) = BAD; link(99, 2, 99, 0) = BAD; link(99, 0, 99, 2) = BAD
                exit(99, 2, true) = BAD; wagon(5, 99, 0, 4, 20) = BAD; wagon(0, 99, 0, 9, 20) = BAD
                wagon(0, 99, 0, 4, 0) = BAD; engine(false, 99, 0, 101) = BAD; bar(10, 0, true) = BAD
                table(8, 0) = BAD; via(99, 0, 3, 0) = BAD; via(99, 0, 0, 100) = BAD; load(99, 2, 0) = BAD
                load(99, 0, 21) = BAD; piece(99, 0, 2, 0) = BAD; piece(99, 0, 0, 121) = BAD; danger(99, 10) = BAD
                hold(99, 1000) = BAD; jam(99, 51) = BAD; pull(99, 9, 0) = BAD; step(0) = BAD; thing(99, 11) = BAD
                pointed(99, 5) = BAD; ask(99, 8) = BAD; meet(99, 9, 101) = BAD; consist(99, -1) = BAD
                finding(4) = BAD; count(18) = BAD; trace(-1) = BAD; log(-1, 0) = BAD; log(0, 2) = BAD
                """;
        script.sentence("Terms", "BAD: a number is not as told (ahead of all else)", FULL_YARD + bad);
        script.sentence("Terms", "BAD ..: FINDING, TRACE and all else are as they were", """
                track(4); wagon(1, 0, 0, 0, 20); hold(0, 7); hold(0, 8); undo() = 1
                remember; ask(0, 3) = ZERO; trace = 14 2 1
                """ + bad + """
                finding(0) = 6; trace = 14 2 1; count(6) = 1; count(-8) = 1; count(-9) = 1; log(0, 1) = 7; unchanged
                """);
        script.sentence("Terms", "FULL: there are as many as there may be", FULL_YARD + """
                track(1) = FULL; point(20, 0) = FULL; route() = FULL; wagon(0, 3, 0, 4, 20) = FULL
                engine(false, 3, 0, 9) = FULL
                """);
        script.sentence("Terms", "FULL ..; nothing happens then, FINDING and TRACE are as they were", FULL_YARD + """
                hold(0, 7); hold(0, 8); undo() = 1; ask(0, 3) = ZERO
                track(1) = FULL; point(20, 0) = FULL; route() = FULL; wagon(0, 3, 0, 4, 20) = FULL
                engine(true, 3, 0, 9) = FULL
                finding(0) = 6; trace = 14 1; count(-8) = 1; count(-9) = 1; count(-5) = 72
                count(0) = 24; count(-1) = 72; count(-6) = 40; count(-7) = 12; at(3, 0) = NONE
                """);
        script.sentence("Terms", "FULL comes ahead of what is FOUND", FULL_YARD + """
                track(-1) = FULL; point(0, 0) = FULL; point(99, 0) = FULL; wagon(0, 0, 0, 4, 20) = FULL
                wagon(0, 99, 0, 4, 20) = FULL; engine(false, 0, 99, 9) = FULL; finding(0) = 0
                """);
    }

    private static void tracksAndPoints() {
        script.sentence("Terms 1", "TRACKS, 24 at most, numbered from 0", """
                track(2) = 0; 22 x track(2) = i+1; track(2) = 23; track(2) = FULL
                """);
        script.sentence("Terms 1", "each with 1 .. 24 PLACES, from 0 on", """
                track(1); track(24)
                at(0, -1) = BEYOND; at(0, 0) = NONE; at(0, 1) = BEYOND
                at(1, -1) = BEYOND; 24 x at(1, i) = NONE; at(1, 24) = BEYOND
                """);
        script.sentence("Terms 1", "DIRECTION 0 goes to lesser PLACES, so to END 0; DIRECTION 1 to greater ones", """
                track(4); engine(false, 0, 1, 50); thing(0, 3) = 1
                pull(0, 0, 1) = 1; thing(0, 2) = 2; pull(0, 1, 2) = 2; thing(0, 2) = 0; pull(0, 1, 1) = CLOSED
                pull(0, 0, 3) = 3; thing(0, 2) = 3; pull(0, 0, 1) = CLOSED
                """);
        script.sentence("Terms 1", "END 0 of a TRACK is ahead of PLACE 0, END 1 behind the last one", """
                track(3); track(3); track(3); link(0, 0, 1, 0); link(0, 1, 2, 0); engine(false, 0, 1, 50)
                pull(0, 0, 2) = 2; thing(0, 1) = 2; pull(0, 1, 4) = 4; thing(0, 1) = 1
                """);
        script.sentence("Terms 1", "an END has one at most, with a POINT 3, in order as they came", """
                6 x track(2); link(0, 1, 1, 0) = 1; link(0, 1, 2, 0) = TAKEN
                point(0, 1) = 0; link(0, 1, 2, 0) = 1; link(3, 0, 0, 1) = 1; pointed(0, 2) = 3
                link(0, 1, 4, 0) = TAKEN; link(4, 0, 0, 1) = TAKEN
                engine(false, 0, 1, 50); pull(0, 0, 1) = 1; thing(0, 1) = 1; pull(0, 1, 2) = 2
                turn(0, 1) = 0; pull(0, 0, 2) = 2; thing(0, 1) = 2; pull(0, 1, 2) = 2
                turn(0, 2) = 1; pull(0, 0, 2) = 2; thing(0, 1) = 3
                """);
        script.sentence("Terms 1", "POINTS, 40 at most, numbered from 0", """
                21 x track(1); 40 x point(i/2, i%2) = i; point(20, 0) = FULL; count(-6) = 40
                pointed(0, 0) = 0; pointed(39, 0) = 19; pointed(39, 1) = 1; pointed(40, 0) = BEYOND
                """);
        script.sentence("Terms 1", "SET to one of its LINKS (by their order; 0 at first)", """
                3 x track(2); point(0, 1); pointed(0, 3) = 0; link(0, 1, 1, 0); link(0, 1, 2, 0); pointed(0, 3) = 0
                turn(0, 1) = 0; pointed(0, 3) = 1
                """);
    }

    private static void theNextPlace() {
        script.sentence("Terms 1", "THE NEXT PLACE ..: on the same TRACK", """
                track(3); engine(false, 0, 1, 50); wagon(0, 0, 2, 4, 20); wagon(0, 0, 0, 4, 20)
                couple(0, 0) = 1; couple(0, 1) = 2
                """);
        // Where one comes to, and how it looks there: over all four pairs of ENDS.
        script.sentence("Terms 1", "the PLACE at that END, and the DIRECTION becomes away from it", """
                track(2); track(3); link(0, 1, 1, 0); engine(false, 0, 1, 50)
                pull(0, 0, 1) = 1; thing(0, 1) = 1; thing(0, 2) = 0; thing(0, 3) = 1; pull(0, 0, 2) = 2
                anew; track(2); track(3); link(0, 1, 1, 1); engine(false, 0, 1, 50)
                pull(0, 0, 1) = 1; thing(0, 1) = 1; thing(0, 2) = 2; thing(0, 3) = 0; pull(0, 0, 2) = 2
                anew; track(2); track(3); link(0, 0, 1, 0); engine(false, 0, 0, 50)
                pull(0, 1, 1) = 1; thing(0, 1) = 1; thing(0, 2) = 0; thing(0, 3) = 0; pull(0, 1, 2) = 2
                anew; track(2); track(3); link(0, 0, 1, 1); engine(false, 0, 0, 50)
                pull(0, 1, 1) = 1; thing(0, 1) = 1; thing(0, 2) = 2; thing(0, 3) = 1; pull(0, 1, 2) = 2
                """);
        script.sentence("Terms 1", "over that END's LINK (with a POINT: the one to which it is SET)", """
                3 x track(1); point(0, 1); link(0, 1, 1, 0); link(0, 1, 2, 0); turn(0, 1)
                wagon(0, 0, 0, 4, 20); wagon(0, 1, 0, 4, 20); wagon(0, 2, 0, 4, 20); couple(0, 0) = 2
                """);
        script.sentence("Terms 1", "if at the END to which it leads there is no POINT, or one that is SET to the same",
                """
                3 x track(2); point(1, 0); link(0, 1, 1, 0); link(2, 1, 1, 0)
                engine(false, 0, 1, 50); engine(false, 2, 1, 50)
                pull(1, 0, 1) = CLOSED; pull(0, 0, 1) = 1; thing(0, 1) = 1; pull(0, 1, 1) = 1; thing(0, 1) = 0
                turn(0, 1); pull(0, 0, 1) = CLOSED; pull(1, 0, 1) = 1; thing(1, 1) = 1
                """);
        script.sentence("Terms 1", ".. with a POINT at either END of the LINK", """
                4 x track(2); point(0, 1); point(1, 0); link(0, 1, 2, 0); link(0, 1, 1, 0); link(1, 0, 3, 0)
                engine(false, 0, 1, 50); wagon(0, 1, 1, 4, 20)
                pull(0, 0, 1) = 1; thing(0, 1) = 2; pull(0, 1, 2) = 2; turn(0, 1); pull(0, 0, 2) = 2; thing(0, 1) = 1
                pull(0, 1, 2) = 2; turn(1, 1); pull(0, 0, 2) = CLOSED; finding(2) = 1
                """);
    }

    private static void closed() {
        script.sentence("Terms 1", "CLOSED: there is none", """
                track(1); engine(false, 0, 0, 50); pull(0, 0, 1) = CLOSED; pull(0, 1, 1) = CLOSED
                couple(0, 0) = CLOSED; couple(0, 1) = CLOSED
                """);
        script.sentence("Terms 1", "CLOSED: there is none (a POINT without LINKS)", """
                track(2); point(0, 1); engine(false, 0, 1, 50); pull(0, 0, 1) = CLOSED; couple(0, 0) = CLOSED
                """);
        script.sentence("Terms 1", "CLOSED: .. or it is that PLACE itself", """
                track(1); link(0, 0, 0, 1); engine(false, 0, 0, 50)
                pull(0, 0, 1) = CLOSED; pull(0, 1, 1) = CLOSED; couple(0, 0) = CLOSED; couple(0, 1) = CLOSED
                anew; track(1); point(0, 0); point(0, 1); link(0, 0, 0, 1); wagon(0, 0, 0, 4, 20); table(1, 9)
                kick(0, 0) = 9; step(1) = 0; count(-4) = 0
                """);
        script.sentence("Terms 1", ".. but not the PLACE at the other END of a longer TRACK", """
                track(2); link(0, 0, 0, 1); engine(false, 0, 1, 50)
                pull(0, 0, 1) = 1; thing(0, 2) = 0; thing(0, 3) = 1; pull(0, 1, 1) = 1; thing(0, 2) = 1
                """);
    }

    private static void namesOfTracks() {
        String calls = """
                track(4); track(4); track(4)
                point(T, 0) = WANT; link(T, 0, 0, 0) = WANT; link(0, 0, T, 0) = WANT; exit(T, 0, true) = WANT
                wagon(0, T, 0, 4, 20) = WANT; engine(false, T, 0, 9) = WANT; roll(T, 0, 1) = WANT; at(T, 0) = WANT
                count(-6) = 0; count(-1) = 0; link(0, 0, 1, 0) = 1
                """;
        script.each("Terms 1", "A TRACK ..: BEYOND: the number is below 0, or not below 24",
                calls.replace("WANT", "BEYOND"), "T", OUTSIDE_TRACKS);
        script.each("Terms 1", "A TRACK ..: NOTHING: it was not made",
                calls.replace("WANT", "NOTHING"), "T", "3", "23");
        script.each("Terms 1", "A TRACK .. that was made", """
                track(4); track(4); track(4); at(T, 0) = NONE; roll(T, 0, 1) = 1; exit(T, 0, true) = 0
                """, "T", "0", "2");
        script.each("Terms 1", "A PLACE: BEYOND: there is no such one", """
                track(4); track(24); wagon(0, 0, P, 4, 20) = BEYOND; engine(true, 0, P, 9) = BEYOND; at(0, P) = BEYOND
                count(-1) = 0; count(-5) = 0
                """, "P", "MIN", "-1", "4", "23", "24", "MAX");
    }

    private static void namesOfPointsAndRoutes() {
        String points = """
                3 x track(2); point(0, 0); point(0, 1); route(); via(0, P, 0, 0) = WANT; turn(P, 0) = WANT
                pointed(P, 0) = WANT; lock(0) = 0
                """;
        script.each("Terms 1", "A POINT ..: BEYOND: .. below 0, or not below .. 40",
                points.replace("WANT", "BEYOND"), "P", OUTSIDE_POINTS);
        script.each("Terms 1", "A POINT ..: NOTHING: it was not made",
                points.replace("WANT", "NOTHING"), "P", "2", "39");
        String routes = """
                track(2); point(0, 0); route(); route()
                via(R, 0, 0, 0) = WANT; lock(R) = WANT; free(R) = WANT; count(-7) = 2
                """;
        script.each("Terms 1", "A ROUTE ..: BEYOND: .. below 0, or not below .. 12",
                routes.replace("WANT", "BEYOND"), "R", OUTSIDE_ROUTES);
        script.each("Terms 1", "A ROUTE ..: NOTHING: it was not made",
                routes.replace("WANT", "NOTHING"), "R", "2", "11");
    }

    private static void theOrderOfNames() {
        script.sentence("Terms 1", "(Ahead of all other FINDINGS, in the order of the act's numbers.)", """
                track(2); route(); point(0, 0); wagon(0, 0, 0, 4, 20)
                link(1, 0, 24, 0) = NOTHING; link(24, 0, 1, 0) = BEYOND; link(0, 0, 24, 0) = BEYOND
                link(0, 0, 1, 0) = NOTHING
                wagon(0, 1, 99, 4, 20) = NOTHING; wagon(0, 24, 99, 4, 20) = BEYOND; wagon(0, 0, 2, 4, 20) = BEYOND
                engine(false, 1, 99, 9) = NOTHING; at(1, 99) = NOTHING; at(0, 99) = BEYOND
                via(1, 99, 0, 0) = NOTHING; via(12, 1, 0, 0) = BEYOND; via(0, 1, 0, 0) = NOTHING
                via(0, 40, 0, 0) = BEYOND; roll(1, -1, -1) = NOTHING; turn(1, 9) = NOTHING
                """);
    }

    private static void newThings() {
        script.sentence("Terms 2", "THINGS, 72 at most, numbered from 0 as they come", """
                3 x track(24); 71 x wagon(0, i/24, i%24, 4, 20) = i; engine(false, 2, 23, 50) = 71
                thing(71, 0) = 5; count(-1) = 72
                """);
        script.sentence("Terms 2", "each stands at a PLACE, no two at one", """
                track(2); wagon(0, 0, 0, 4, 20) = 0; wagon(0, 0, 0, 4, 20) = TAKEN; engine(true, 0, 0, 9) = TAKEN
                engine(true, 0, 1, 9) = 1; wagon(4, 0, 1, 4, 20) = TAKEN; at(0, 0) = 0; at(0, 1) = 1
                """);
        script.sentence("Terms 2", "SIDE 0 LOOKS in a DIRECTION (1 at first), SIDE 1 in the other one", KINDS + """
                7 x thing(i, 3) = 1; couple(1, 0) = 2; couple(1, 1) = 0
                """);
        script.sentence("Terms 2", "A WAGON has .. a DANGER, 0 .. 9 (0 at first), a LOAD: NOTHING (at first)",
                KINDS + """
                5 x ask(i, 5) = 0; 4 x ask(i, 6) = NOTHING; piece(4, 0, 0, 1) = NOTHING
                danger(0, 9) = 0; danger(0, 0) = 9; danger(0, 10) = BAD; danger(0, -1) = BAD
                """);
        script.sentence("Terms 2", "a THING may hold a FAULT (a number; none at first), and be JAMMED", KINDS + """
                7 x thing(i, 7) = NONE; 7 x thing(i, 8) = 0; 7 x raise(i) = NONE_HELD
                """);
    }

    private static void namesOfThings() {
        String any = """
                hold(T, 1) = WANT; jam(T, 1) = WANT; raise(T) = WANT; couple(T, 0) = WANT; part(T, 0) = WANT
                test(T) = WANT; store(T, 0) = WANT; thing(T, 0) = WANT; ask(T, 0) = WANT; ask(T, 1) = WANT
                ask(T, 2) = WANT; ask(T, 3) = WANT; meet(T, 0, 0) = WANT; weigh(T) = WANT; share(T) = WANT
                consist(T, 0) = WANT
                """;
        String wagons = """
                load(T, 0, 1) = WANT; piece(T, 0, 0, 1) = WANT; danger(T, 1) = WANT; kick(T, 0) = WANT; ask(T, 5) = WANT
                """;
        String engines = "pull(T, 0, 1) = WANT; leave(T) = WANT; ask(T, 4) = WANT\n";
        String others = "ask(T, 6) = WANT; ask(T, 7) = WANT\n";
        String all = any + wagons + engines + others;
        script.each("Terms 2", "A THING ..: BEYOND: the number is not 0 .. 71",
                KINDS + all.replace("WANT", "BEYOND"), "T", OUTSIDE_THINGS);
        script.each("Terms 2", "A THING ..: NOTHING: no such one was made",
                KINDS + all.replace("WANT", "NOTHING"), "T", "7", "71");
        String left = """
                track(4); exit(0, 0, true); engine(false, 0, 0, 50); wagon(2, 0, 1, 4, 20); couple(0, 0); test(0) = 2
                leave(0) = 2
                """;
        script.each("Terms 2", "A THING ..: NOTHING: .. or it left",
                left + any.replace("WANT", "NOTHING"), "T", "0", "1");
        script.each("Terms 2", "A THING ..: NOTHING: .. or it left",
                left + (wagons + others).replace("WANT", "NOTHING"),
                "T", "1");
        script.each("Terms 2", "A THING ..: NOTHING: .. or it left",
                left + engines.replace("WANT", "NOTHING"), "T", "0");
        script.each("Terms 2", "NOT SUCH: it is another one (which comes ahead of NOTHING)",
                left + (wagons + others).replace("WANT", "NOT_SUCH"), "T", "0");
        script.each("Terms 2", "NOT SUCH: it is another one (which comes ahead of NOTHING)",
                left + engines.replace("WANT", "NOT_SUCH"), "T", "1");
    }

    private static void wantedAs() {
        script.each("Terms 2", "WANTED AS a WAGON: NOT SUCH: it is another one", KINDS + """
                load(T, 0, 1) = NOT_SUCH; piece(T, 0, 0, 1) = NOT_SUCH; danger(T, 1) = NOT_SUCH; kick(T, 0) = NOT_SUCH
                ask(T, 5) = NOT_SUCH
                """, "T", "5", "6");
        script.each("Terms 2", "KINDS: 0 .. 4 ..; these are WAGONS", KINDS + """
                load(T, 0, 1) = 1; piece(T, 0, 0, 1) = 1; danger(T, 1) = 0; kick(T, 0) = 0; ask(T, 5) = 1
                """, "T", "0", "1", "2", "3", "4");
        script.each("Terms 2", "WANTED AS .. an ENGINE: NOT SUCH: it is another one", KINDS + """
                pull(T, 0, 1) = NOT_SUCH; leave(T) = NOT_SUCH; ask(T, 4) = NOT_SUCH
                """, "T", "0", "1", "2", "3", "4");
        script.sentence("Terms 2", "5 ENGINE, 6 SLUG (it is an ENGINE, too)", KINDS + """
                ask(5, 4) = 30; ask(6, 4) = 0; leave(5) = UNTESTED; leave(6) = UNTESTED; pull(5, 0, 1) = TAKEN
                pull(6, 0, 1) = WEAK; store(6, 0) = 1
                """);
        script.each("Terms 2", "TANK, COLD and LONG are FLAT, too", KINDS + """
                ask(T, 6) = NOTHING; load(T, 1, 5); ask(T, 6) = 5
                """, "T", "0", "1", "2", "3");
        script.each("Terms 2", "4 EMPTY (no FLAT)", KINDS + "ask(T, 6) = NOT_SUCH", "T", "4", "5", "6");
        script.each("Terms 2", "2 COLD (no other one is)", KINDS + "ask(T, 7) = NOT_SUCH; ask(2, 7) = 4",
                "T", "0", "1", "3", "4", "5", "6");
    }

    private static void sides() {
        script.each("Terms 2", "A SIDE: BEYOND: it is not 0, 1", KINDS + """
                couple(0, S) = BEYOND; part(0, S) = BEYOND; pull(5, S, 1) = BEYOND; kick(0, S) = BEYOND
                meet(0, S, 0) = BEYOND; meet(0, S, 1) = BEYOND
                """, "S", OUTSIDE_SIDES);
        script.each("Terms 2", "A SIDE: .. (behind the THING)", KINDS + """
                couple(7, S) = NOTHING; part(7, S) = NOTHING; pull(7, S, 1) = NOTHING; pull(0, S, 1) = NOT_SUCH
                kick(7, S) = NOTHING; kick(5, S) = NOT_SUCH; meet(7, S, 1) = NOTHING
                """, "S", OUTSIDE_SIDES);
    }

    private static void weights() {
        script.sentence("Terms 2", "WEIGHT: .. (0 of NOTHING)", KINDS + """
                ask(0, 0) = 10; trace = 1
                ask(1, 0) = 10; trace = 2 1
                ask(2, 0) = 15; trace = 3 2 1
                ask(3, 0) = 10; trace = 1
                ask(4, 0) = 10; trace = 4
                ask(5, 0) = 110; trace = 5
                ask(6, 0) = 120; trace = 5
                """);
        script.sentence("Terms 2", "WEIGHT: .. the sum of LOAD's pieces .. and the pieces' number", KINDS + """
                5 x load(i, 0, 3); 5 x piece(i, 0, 0, 100); 5 x piece(i, 2, 0, 7)
                ask(0, 0) = 117; ask(1, 0) = 120; ask(2, 0) = 125; ask(3, 0) = 117; ask(4, 0) = 10
                """);
        script.sentence("Terms 2", "WEIGHT: a row of no pieces", KINDS + """
                5 x load(i, 1, 0); ask(0, 0) = 10; ask(1, 0) = 10; ask(2, 0) = 15; ask(3, 0) = 10; ask(4, 0) = 10
                """);
        script.sentence("Terms 2", "WEIGHT: the most", """
                track(2); wagon(2, 0, 0, 8, 100); load(0, 1, 20); 20 x piece(0, i, 1, 120); ask(0, 0) = 2525
                ask(0, 2) = 5058; ask(0, 3) = 315; engine(false, 0, 1, 100); ask(1, 0) = 180
                """);
    }

    private static void brakes() {
        script.sentence("Terms 2", "BRAKE", KINDS + """
                ask(0, 1) = 16; trace = 6
                ask(1, 1) = 16; trace = 6
                ask(2, 1) = 18; trace = 7 6
                ask(3, 1) = 12; trace = 8
                ask(4, 1) = 4; trace = 9
                ask(5, 1) = 30; trace = 10
                ask(6, 1) = 35; trace = 11 10
                """);
        script.sentence("Terms 2", "BRAKE without AXLES", """
                track(5); 5 x wagon(i, 0, i, 0, 10)
                ask(0, 1) = 0; ask(1, 1) = 0; ask(2, 1) = 2; ask(3, 1) = 0; ask(4, 1) = 0
                """);
    }

    private static void heavyAndPerAxle() {
        script.sentence("Terms 2", "HEAVY: [12] 2 WEIGHT and AXLES; of LONG [13] what [12] gives, and 10", KINDS + """
                ask(0, 2) = 24; trace = 12 1
                ask(1, 2) = 24; trace = 12 2 1
                ask(2, 2) = 34; trace = 12 3 2 1
                ask(3, 2) = 34; trace = 13 12 1
                ask(4, 2) = 24; trace = 12 4
                ask(5, 2) = 226; trace = 12 5
                ask(6, 2) = 244; trace = 12 5
                """);
        script.sentence("Terms 2", "PER AXLE: [14] WEIGHT by AXLES, rounded down", """
                track(4); wagon(0, 0, 0, 4, 20); wagon(0, 0, 1, 4, 19); wagon(4, 0, 2, 8, 7)
                ask(0, 3) = 5; trace = 14 1
                ask(1, 3) = 4; ask(2, 3) = 0; trace = 14 4
                wagon(0, 0, 3, 1, 20); ask(3, 3) = 20
                """);
        script.sentence("Terms 2", "PER AXLE: .. ZERO, behind WEIGHT", """
                track(5); 5 x wagon(i, 0, i, 0, 10)
                ask(0, 3) = ZERO; trace = 14 1
                ask(1, 3) = ZERO; trace = 14 2 1
                ask(2, 3) = ZERO; trace = 14 3 2 1
                ask(3, 3) = ZERO; trace = 14 1
                ask(4, 3) = ZERO; trace = 14 4
                count(6) = 5
                """);
        script.sentence("Terms 2", "AXLES: .. of an ENGINE 6, a SLUG 4 (no TRACE)", KINDS + """
                ask(5, 3) = 18; trace = 14 5
                ask(6, 3) = 30; trace = 14 5
                ask(2, 7) = 4; trace =
                """);
    }

    private static void pulls() {
        script.sentence("Terms 2", "PULLS: of SLUG [16] .. if an ENGINE that is no SLUG is coupled to SIDE 0 or SIDE 1",
                """
                track(6); engine(false, 0, 0, 10); engine(true, 0, 1, 20); engine(true, 0, 2, 30)
                engine(true, 0, 3, 40)
                engine(false, 0, 4, 50); wagon(0, 0, 5, 4, 20)
                ask(0, 4) = 10; trace = 15
                ask(1, 4) = 0; trace = 16
                couple(1, 1) = 0; ask(1, 4) = 20; trace = 16 15
                couple(2, 1) = 1; ask(2, 4) = 0; trace = 16
                couple(3, 0) = 4; ask(3, 4) = 40; couple(2, 0) = 3; ask(2, 4) = 0; ask(1, 4) = 20; ask(3, 4) = 40
                part(1, 1) = 0; ask(1, 4) = 0
                """);
        script.sentence("Terms 2", "PULLS: of SLUG .. else 0", """
                track(3); wagon(0, 0, 0, 4, 20); engine(true, 0, 1, 20); wagon(0, 0, 2, 4, 20)
                couple(1, 0) = 2; couple(1, 1) = 0; ask(1, 4) = 0; trace = 16
                """);
    }

    private static void suits() {
        script.sentence("Terms 2", "SUITS ..: [17] if both are WAGONS, whether their DANGERS are not BARRED; else", """
                track(4); wagon(0, 0, 0, 4, 20); wagon(1, 0, 1, 4, 20); engine(false, 0, 2, 20); wagon(3, 0, 3, 4, 20)
                bar(0, 0, true); couple(0, 0) = BARRED; trace = 17
                couple(1, 0) = 2; trace = 17 18
                couple(2, 0) = 3; trace = 18 17
                bar(0, 0, false); couple(0, 0) = 1; trace = 17 17
                """);
        script.sentence("Terms 2", "SUITS ..: [17] .. DANGERS that are BARRED from one another, either way", """
                track(2); wagon(0, 0, 0, 4, 20); wagon(3, 0, 1, 4, 20); bar(3, 7, true); danger(0, 7); danger(1, 3)
                couple(0, 0) = BARRED; trace = 17
                couple(1, 1) = BARRED; trace = 17
                danger(1, 7); couple(0, 0) = 1
                """);
        script.each("Terms 2", "SUITS ..: of ENGINE, SLUG [18] it does", """
                track(3); wagon(4, 0, 0, 4, 20); engine(SLUG, 0, 1, 20); engine(false, 0, 2, 20); bar(0, 0, true)
                couple(1, 0) = 2; trace = 18 18
                couple(1, 1) = 0; trace = 18 19 17
                """, "SLUG", "true", "false");
        script.each("Terms 2", "SUITS ..: of EMPTY [19] not, if the other is a TANK", """
                track(2); wagon(4, 0, 0, 4, 20); wagon(K, 0, 1, 4, 20)
                couple(0, 0) = BARRED; trace = 19
                couple(1, 1) = BARRED; trace = 17 19
                """, "K", "1", "2");
        script.each("Terms 2", "SUITS ..: of EMPTY [19] .. else what [17] gives", """
                track(2); wagon(4, 0, 0, 4, 20); wagon(K, 0, 1, 4, 20)
                bar(0, 0, true); couple(0, 0) = BARRED; trace = 19 17
                bar(0, 0, false); couple(1, 1) = 0; trace = 17 19 17
                """, "K", "0", "3");
        script.sentence("Terms 2", "SUITS ..: EMPTY and EMPTY", """
                track(2); wagon(4, 0, 0, 4, 20); wagon(4, 0, 1, 4, 20); couple(0, 0) = 1; trace = 19 17 19 17
                """);
    }

    private static void consists() {
        String line = """
                track(3); track(2); link(0, 1, 1, 1); 3 x wagon(0, 0, i, 4, 20); wagon(0, 1, 1, 4, 20)
                engine(false, 1, 0, 50); couple(0, 0); couple(1, 0); couple(2, 0) = 3; couple(3, 1) = 4
                """;
        script.sentence("Terms 2", "Its ORDER ..: the first is the last one met by going from it by its SIDE 0",
                line + """
                5 x consist(0, i); consist(0, 0) = 4; consist(0, 4) = 0; consist(2, 1) = 3; consist(2, 5) = NONE
                consist(3, 0) = 0; consist(3, 4) = 4; consist(4, 0) = 0; consist(4, 3) = 3
                """);
        script.sentence("Terms 2", "Its ORDER .. of one that is alone", """
                track(1); wagon(0, 0, 0, 4, 20); consist(0, 0) = 0; consist(0, 1) = NONE
                """);
        script.sentence("Terms 2", "SERIALS are 1, 2, ..; each THING made gets the next one", """
                track(4); wagon(0, 0, 0, 4, 20); engine(false, 0, 1, 9); wagon(0, 0, 1, 4, 20) = TAKEN
                wagon(0, 0, 9, 4, 20) = BEYOND; wagon(0, 0, 2, 4, 20)
                thing(0, 6) = 1; thing(1, 6) = 2; thing(2, 6) = 3; count(-5) = 3
                """);
        script.sentence("Terms 2", "all THINGS of a CONSIST have one", line + """
                5 x thing(i, 6) = 9; count(-5) = 9; part(2, 1) = 1; 2 x thing(i, 6) = 11; thing(2, 6) = 10
                thing(3, 6) = 10; thing(4, 6) = 10; count(-5) = 11
                """);
    }

    private static void stepsGo() {
        String train = """
                track(6); engine(false, 0, 2, 50); wagon(0, 0, 3, 4, 20); wagon(0, 0, 5, 4, 20); couple(0, 0)
                """;
        script.sentence("Terms 3", "A STEP .. to the side of a LEAD (its THING at that end)", train + """
                pull(0, 0, 1) = 1; at(0, 4) = 1; at(0, 3) = 0; at(0, 2) = NONE
                pull(0, 1, 3) = 3; at(0, 0) = 0; at(0, 1) = 1
                """);
        script.sentence("Terms 3", "A STEP ..: CLOSED", train + """
                pull(0, 1, 2) = 2; remember; pull(0, 1, 1) = CLOSED; unchanged
                """);
        script.sentence("Terms 3", "A STEP ..: TAKEN: it holds something", train + """
                pull(0, 0, 1) = 1; remember; pull(0, 0, 1) = TAKEN; unchanged
                """);
        script.sentence("Terms 3", "A STEP ..: TAKEN: it holds something (its own tail)", """
                track(3); link(0, 0, 0, 1); engine(false, 0, 0, 50); wagon(0, 0, 1, 4, 20); couple(0, 0)
                pull(0, 0, 9) = 9; wagon(0, 0, 2, 4, 20); couple(1, 0) = 2; pull(0, 0, 1) = TAKEN; pull(0, 1, 1) = TAKEN
                """);
        script.sentence("Terms 3", "A STEP ..: CLOSED and TAKEN come ahead of who is JAMMED", train + """
                jam(1, 1); pull(0, 0, 1) = NONE_HELD; jam(1, 0); pull(0, 0, 1) = 1; jam(1, 1); pull(0, 0, 1) = TAKEN
                anew; track(2); engine(false, 0, 1, 50); hold(0, 5); jam(0, 1); pull(0, 0, 1) = CLOSED
                finding(1) = NONE; pull(0, 1, 1) = HELD; finding(1) = 5
                """);
    }

    private static void stepsJam() {
        String train = """
                track(9); engine(false, 0, 0, 50); wagon(0, 0, 1, 4, 20); wagon(0, 0, 2, 4, 20); couple(0, 0)
                couple(1, 0)
                """;
        script.sentence("Terms 3", "a THING that is JAMMED n becomes JAMMED n - 1", train + """
                jam(0, 50); jam(1, 3); pull(0, 0, 2) = 2; thing(0, 8) = 48; thing(1, 8) = 1; thing(2, 8) = 0
                """);
        script.sentence("Terms 3", "if that is 0, it RAISES what it holds (and holds still): HELD", train + """
                jam(2, 1); hold(2, 0); pull(0, 0, 1) = HELD; finding(1) = 0; finding(2) = 0; thing(2, 7) = 0
                """);
        script.sentence("Terms 3", ".. or NONE HELD if that is nothing", train + """
                jam(1, 2); pull(0, 0, 5) = NONE_HELD; finding(1) = NONE; finding(2) = 1; thing(1, 2) = 2
                """);
        script.sentence("Terms 3", "Then, from the LEAD on", train + """
                3 x jam(i, 1); 3 x hold(i, i); pull(0, 0, 1) = HELD; finding(1) = 2; pull(0, 1, 1) = CLOSED
                3 x jam(i, 2); pull(0, 0, 1) = 1; pull(0, 1, 1) = HELD; finding(1) = 0
                """);
        script.sentence("Terms 3", "A STEP that is FOUND leaves nothing: all is as ahead of it (JAMS, too)", train + """
                jam(0, 1); jam(1, 7); jam(2, 9); hold(0, 3); remember; pull(0, 0, 1) = HELD; unchanged
                jam(0, 0); pull(0, 0, 6) = 6; thing(1, 8) = 1; thing(2, 8) = 3; remember
                pull(0, 0, 1) = CLOSED; unchanged; pull(0, 1, 1) = NONE_HELD; unchanged
                """);
    }

    private static void stepsLook() {
        script.sentence("Terms 3", "the side ahead of each LOOKS as the one ahead did there, the LEAD's as it came", """
                track(2); track(4); link(0, 1, 1, 1); engine(false, 0, 0, 50); wagon(0, 0, 1, 4, 20); couple(0, 0)
                pull(0, 0, 1) = 1; thing(1, 3) = 0; thing(0, 3) = 1
                pull(0, 0, 1) = 1; thing(1, 3) = 0; thing(0, 3) = 0; thing(1, 2) = 2; thing(0, 2) = 3
                pull(0, 1, 2) = 2; thing(0, 1) = 0; thing(0, 2) = 0; thing(0, 3) = 1; thing(1, 3) = 1
                """);
    }

    private static void routes() {
        script.sentence("Terms 3", "ROUTES, 12 at most, numbered from 0", """
                12 x route() = i; route() = FULL; lock(11) = 0; lock(12) = BEYOND
                """);
        script.sentence("Terms 3", "each with ENTRIES, 8 at most: a POINT (each once)", """
                5 x track(1); 10 x point(i/2, i%2); route(); 8 x via(0, i, 0, 0) = i+1
                via(0, 8, 0, 0) = TAKEN; via(0, 7, 0, 0) = TAKEN
                """);
        script.sentence("Terms 3", "They are locked by RANKS, rising, of the same by POINTS", """
                3 x track(2); point(0, 0); point(1, 0); point(2, 0); link(0, 0, 0, 1); link(1, 0, 1, 1)
                link(0, 0, 1, 0)
                wagon(0, 0, 0, 4, 20); route(); route(); route()
                via(0, 2, 0, 3); via(0, 0, 1, 3); lock(0) = UNDER; route(); via(3, 0, 1, 3); via(3, 2, 0, 3)
                lock(3) = UNDER
                route(); via(4, 0, 1, 7); via(4, 2, 0, 5); via(4, 1, 0, 3); lock(4) = BEYOND
                route(); via(5, 2, 0, 7); via(5, 0, 1, 6); via(5, 1, 0, 7); lock(5) = UNDER
                route(); via(6, 1, 0, 0); via(6, 2, 0, 9); via(6, 0, 1, 8); lock(6) = UNDER
                route(); via(7, 0, 1, 5); via(7, 1, 0, 3); via(7, 2, 0, 4); lock(7) = BEYOND
                via(1, 2, 0, 2); via(1, 0, 1, 3); lock(1) = BEYOND
                via(2, 0, 1, 0); via(2, 2, 0, 99); lock(2) = UNDER
                """);
        script.sentence("Terms 3", "TABLE has 8 numbers, 0 at first", """
                8 x table(i, 99) = 0; 8 x table(i, 0) = 99; table(8, 0) = BAD
                """);
    }

    private static void whatIsState() {
        String yard = """
                track(6); track(2); point(0, 1); link(0, 1, 1, 0); link(0, 1, 1, 1); route(); via(0, 0, 1, 0)
                table(1, 5)
                exit(1, 0, true); engine(false, 1, 0, 50); wagon(0, 0, 1, 4, 20); wagon(0, 0, 2, 4, 20)
                wagon(3, 0, 4, 4, 20)
                """;
        script.sentence("Terms 3", "STATE: .. what POINTS are SET to, by which ROUTE they are locked", yard + """
                remember; turn(0, 1) = 0; undo() = 1; unchanged; lock(0) = 1; undo() = 1; unchanged
                lock(0) = 1; remember; free(0) = 1; undo() = 1; unchanged
                """);
        script.sentence("Terms 3", "STATE: which THINGS there are, where, how they LOOK", yard + """
                remember; pull(0, 0, 1) = 1; undo() = 1; unchanged; test(0) = 1; remember; leave(0) = 1; undo() = 1
                unchanged
                """);
        script.sentence("Terms 3", "STATE: .. are coupled, SERIALS ..", yard + """
                couple(1, 0) = 2; thing(1, 6) = 5; couple(2, 0) = NOTHING; part(2, 1) = 1; thing(1, 6) = 7; undo() = 1
                thing(1, 6) = 5; thing(2, 6) = 5; thing(1, 4) = 2; thing(2, 5) = 1; count(-5) = 7
                undo() = 1; undo() = 1; thing(1, 6) = 2; thing(2, 6) = 3; thing(1, 4) = NONE
                """);
        script.sentence("Terms 3", "STATE: .. FAULTS, JAMS, DANGERS ..", yard + """
                hold(1, 9); jam(1, 8); danger(1, 7); remember; hold(1, 1); undo(); jam(1, 1); undo(); danger(1, 1)
                undo()
                unchanged; undo(); thing(1, 7) = 9; thing(1, 8) = 8; ask(1, 5) = 0; undo(); thing(1, 8) = 0; undo()
                thing(1, 7) = NONE
                """);
        script.sentence("Terms 3", "STATE: .. which RUN, D, by which SIDE, in which order they began ..; DAMPS",
                yard + """
                kick(2, 1) = 5; kick(1, 1) = 5; kick(3, 0) = 5; remember; step(2) = 1; count(-4) = 1; undo() = 1
                unchanged
                step(3) = 0; count(-4) = 2; undo() = 1; unchanged; kick(2, 0) = RUNS; undo(); unchanged
                step(1) = 3; thing(2, 2) = 2; thing(2, 9) = 4; thing(1, 2) = 0; thing(3, 2) = 5
                """);
        script.sentence("Terms 3", "STATE: .. which are TESTED", yard + """
                test(1) = 1; remember; couple(1, 0) = 2; thing(1, 10) = 0; undo(); thing(1, 10) = 1; test(2) = 1; undo()
                thing(2, 10) = 0
                """);
    }

    private static void whatKeeps() {
        String yard = """
                track(6); track(2); point(0, 1); link(0, 1, 1, 0); route(); via(0, 0, 0, 0); engine(false, 0, 1, 50)
                wagon(0, 0, 2, 4, 20)
                """;
        script.each("Terms 3", "ACTS keep the STATE ..: each that was not BAD", yard + """
                count(-8) = 0; ACT; count(-8) = 1; log(1, 0) = NONE
                """, "ACT", "danger(1, 1)", "hold(0, 1)", "jam(0, 1)", "turn(0, 0)", "lock(0)", "free(0)",
                "couple(0, 0)",
                "pull(0, 1, 1)", "kick(1, 0)", "step(1)", "test(0)");
        script.sentence("Terms 3", "ACTS keep the STATE ..: part(), leave()", """
                track(2); exit(0, 0, true); engine(false, 0, 0, 50); wagon(0, 0, 1, 4, 20); couple(0, 0); count(-8) = 1
                part(0, 0); count(-8) = 2; test(0); count(-8) = 3; leave(0); count(-8) = 4
                """);
        script.each("Terms 3", "ACTS keep ..: (also one that was FOUND)", yard + """
                ACT = FOUND; count(-8) = 1; log(0, 1) = FOUND; remember; undo() = 1; unchanged; count(-9) = 1
                """, "ACT", "danger(9, 1)", "hold(9, 1)", "jam(9, 1)", "turn(9, 0)", "lock(9)", "free(9)",
                "couple(9, 0)",
                "part(0, 0)", "pull(0, 0, 1)", "kick(9, 0)", "test(9)", "leave(0)");
        script.each("Terms 3", "ACTS keep ..: each that was not BAD (one that was does not)", yard + """
                hold(0, 1); hold(0, 2); undo(); ACT = BAD; count(-8) = 1; count(-9) = 1; log(0, 1) = 1; back() = 1
                """, "ACT", "danger(1, 10)", "hold(0, 1000)", "jam(0, 51)", "pull(0, 0, 201)", "step(51)");
        script.each("Terms 3", "ACTS keep ..: none but these", yard + """
                hold(0, 1); hold(0, 2); undo(); ACT; count(-8) = 1; count(-9) = 1; log(0, 0) = 1; back() = 1
                """, "ACT", "raise(0) = HELD", "roll(0, 0, 2)", "store(0, 0)", "load(1, 0, 1)",
                "piece(1, 0, 0, 0) = NOTHING",
                "at(0, 0)", "weigh(0)", "room(0, 4)", "lay(true, 0, 1)", "wipe()", "plan(0)", "check()");
        script.sentence("Terms 3", "ACTS keep ..: the latest 8", yard + """
                8 x hold(0, i); count(-8) = 8; hold(0, 8); count(-8) = 8; 8 x undo() = 1; thing(0, 7) = 0; undo() = 0
                count(-9) = 8
                """);
    }

    private static void whatForgets() {
        String yard = """
                3 x track(4); point(0, 1); link(0, 1, 1, 0); route(); engine(false, 0, 1, 50); hold(0, 1); hold(0, 2)
                undo()
                count(-8) = 1; count(-9) = 1
                """;
        script.each("Terms 3", ".. when they do what they should, forget all that is kept", yard + """
                ACT; count(-8) = 0; count(-9) = 0; back() = 0; undo() = 0; thing(0, 7) = 1; log(0, 0) = 1
                """, "ACT", "track(1)", "point(0, 0)", "link(0, 1, 2, 0)", "exit(0, 0, false)", "wagon(0, 0, 0, 4, 20)",
                "engine(true, 0, 0, 0)", "bar(0, 0, false)", "table(0, 0)", "route()", "via(0, 0, 0, 0)");
        script.each("Terms 3", ".. when they do what they should (else they forget nothing)", yard + """
                ACT; count(-8) = 1; count(-9) = 1; back() = 1; thing(0, 7) = 2; undo() = 1; undo() = 1
                """, "ACT", "track(0) = BAD", "track(-1) = SIZE", "point(0, 2) = BAD", "point(0, 1) = TAKEN",
                "link(0, 2, 1, 0) = BAD", "link(0, 1, 1, 0) = TAKEN", "exit(0, 2, true) = BAD",
                "exit(9, 0, true) = NOTHING",
                "wagon(5, 0, 0, 4, 20) = BAD", "wagon(0, 0, 1, 4, 20) = TAKEN", "engine(true, 0, 0, 101) = BAD",
                "engine(true, 0, 1, 10) = TAKEN", "bar(0, 10, true) = BAD", "table(0, 100) = BAD",
                "via(0, 0, 3, 0) = BAD",
                "via(0, 9, 0, 0) = NOTHING");
    }
}
