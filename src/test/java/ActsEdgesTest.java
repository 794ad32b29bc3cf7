/** Each sentence of promises 14 to 29 that names a boundary case. */
final class ActsEdgesTest {
    private static final Script script = new Script();

    public static void main(String[] args) {
        danger();
        hold();
        jam();
        raise();
        turn();
        lock();
        lockGivesBack();
        free();
        coupleOrder();
        couple();
        part();
        pull();
        pullWeak();
        kick();
        step();
        stepEnds();
        test();
        leave();
        roll();
        store();
        script.end();
    }

    private static void danger() {
        String yard = "track(4); wagon(0, 0, 0, 4, 10); wagon(0, 0, 1, 4, 10); engine(false, 0, 2, 50)\n";
        script.each("14", "BAD: c is not 0 .. 9", yard + """
                danger(0, C) = BAD; danger(9, C) = BAD; count(-8) = 0; ask(0, 5) = 0
                """, "C", "MIN", "-1", "10", "MAX");
        script.sentence("14", "becomes c: what it was", yard + "danger(0, 9) = 0; danger(0, 0) = 9; danger(0, 0) = 0");
        script.sentence("14", "(what is coupled stays so)", yard + """
                bar(1, 1, true); couple(0, 0) = 1; danger(0, 1) = 0; danger(1, 1) = 0; thing(0, 4) = 1
                meet(0, 0, 1) = 1
                part(0, 0) = 1; couple(0, 0) = BARRED
                """);
        script.sentence("14", "FOUND: the WAGON", yard + """
                remember; danger(2, 1) = NOT_SUCH; danger(3, 1) = NOTHING; danger(72, 1) = BEYOND; unchanged
                """);
    }

    private static void hold() {
        String yard = "track(4); wagon(0, 0, 0, 4, 10); engine(false, 0, 2, 50)\n";
        script.each("15", "BAD: n is not NONE, 0 .. 999", yard + """
                hold(0, N) = BAD; hold(9, N) = BAD; thing(0, 7) = NONE; count(-8) = 0
                """, "N", "MIN", "-5", "-3", "-2", "-1", "1000", "MAX");
        script.sentence("15", "what it held; NONE", yard + """
                hold(0, 0) = NONE; hold(0, 999) = 0; hold(0, NONE) = 999; hold(0, NONE) = NONE; hold(1, 5) = NONE
                hold(1, 5) = 5
                """);
        script.sentence("15", "FOUND: the THING", yard + """
                hold(2, 1) = NOTHING; hold(72, 1) = BEYOND; hold(-1, NONE) = BEYOND
                """);
    }

    private static void jam() {
        String yard = "track(4); wagon(0, 0, 0, 4, 10); engine(false, 0, 2, 50)\n";
        script.each("16", "BAD: n is not 0 .. 50", yard + """
                jam(0, N) = BAD; jam(9, N) = BAD; thing(0, 8) = 0; count(-8) = 0
                """, "N", "MIN", "-1", "51", "MAX");
        script.sentence("16", "JAMMED n (0: not): what it was", yard + """
                jam(1, 50) = 0; jam(1, 1) = 50; jam(1, 0) = 1; pull(1, 0, 1) = 1; thing(1, 8) = 0
                """);
        script.sentence("16", "FOUND: the THING", yard + "jam(2, 1) = NOTHING; jam(72, 1) = BEYOND");
    }

    private static void raise() {
        String yard = "track(4); wagon(0, 0, 0, 4, 10)\n";
        script.sentence("17", "FOUND always: the THING; HELD, or NONE HELD", yard + """
                raise(1) = NOTHING; raise(72) = BEYOND; raise(-1) = BEYOND; raise(0) = NONE_HELD; finding(1) = NONE
                hold(0, 999); raise(0) = HELD; finding(1) = 999; hold(0, 0); raise(0) = HELD; finding(1) = 0
                raise(0) = HELD
                thing(0, 7) = 0; count(7) = 1; count(8) = 3
                """);
        script.sentence("17", "(No ACT of those that keep.)", yard + """
                raise(0) = NONE_HELD; count(-8) = 0; log(0, 0) = NONE; hold(0, 1); undo(); raise(0) = NONE_HELD
                back() = 1
                """);
    }

    /** POINT 0 behind TRACK 0, with LINKS to TRACKS 1 and 2; POINT 1 ahead of TRACK 0, without one. */
    private static final String FORK = """
            3 x track(3); point(0, 1); link(0, 1, 1, 0); link(0, 1, 2, 0); point(0, 0); route(); route()
            via(0, 0, 0, 0)
            via(1, 0, 1, 0)
            """;

    private static void turn() {
        script.each("18", "BEYOND: it has no such LINK", FORK + "turn(0, K) = BEYOND; pointed(0, 3) = 0", "K",
                "MIN", "-1", "2", "3", "MAX");
        script.sentence("18", "BEYOND: it has no such LINK (none at all)", FORK + """
                turn(1, 0) = BEYOND; turn(1, 1) = BEYOND
                """);
        script.sentence("18", "to which it was", FORK + """
                turn(0, 0) = 0; turn(0, 1) = 0; turn(0, 1) = 1; turn(0, 0) = 1
                """);
        script.sentence("18", "then, if it was SET to another one: LOCKED: a ROUTE locks it", FORK + """
                lock(1) = 1; remember; turn(0, 0) = LOCKED; unchanged; lock(0) = LOCKED; turn(0, 0) = LOCKED
                finding(3) = 1
                turn(0, 1) = 1; turn(0, 2) = BEYOND; finding(3) = NONE
                """);
        script.sentence("18", "then ..: UNDER: something stands at the PLACE at its END", FORK + """
                wagon(0, 0, 2, 4, 20); remember; turn(0, 1) = UNDER; unchanged; turn(0, 0) = 0; turn(0, 2) = BEYOND
                """);
        script.sentence("18", "UNDER: .. at its END (nowhere else)", FORK + """
                wagon(0, 0, 1, 4, 20); wagon(0, 0, 0, 4, 20); wagon(0, 1, 0, 4, 20); wagon(0, 2, 0, 4, 20)
                turn(0, 1) = 0
                """);
        script.sentence("18", "LOCKED comes ahead of UNDER", FORK + """
                wagon(0, 0, 2, 4, 20); lock(0) = 1; turn(0, 1) = LOCKED; finding(3) = 0; free(0) = 1; turn(0, 1) = UNDER
                """);
        script.sentence("18", "UNDER: .. (at END 0 it is PLACE 0, with one PLACE it is either)", """
                track(3); point(0, 0); link(0, 0, 0, 1); track(1); link(0, 0, 1, 0); wagon(0, 0, 2, 4, 20)
                turn(0, 1) = 0
                wagon(0, 0, 0, 4, 20); turn(0, 0) = UNDER
                anew; track(1); track(2); point(0, 0); point(0, 1); link(0, 0, 1, 0); link(0, 0, 1, 1)
                wagon(0, 0, 0, 4, 20); turn(0, 1) = UNDER
                """);
    }

    private static void lock() {
        script.sentence("19", "it is SET, and locked: how many", FORK + """
                lock(1) = 1; pointed(0, 3) = 1; pointed(0, 4) = 1; free(1) = 1; lock(0) = 1; pointed(0, 3) = 0
                pointed(0, 4) = 0
                """);
        script.sentence("19", "how many (none)", FORK + "route() = 2; lock(2) = 0; lock(2) = 0; finding(0) = 0");
        script.sentence("19", "LOCKED: a ROUTE (this one, too) locks the POINT", FORK + """
                lock(0) = 1; remember; lock(0) = LOCKED; unchanged; lock(0) = LOCKED; finding(3) = 0; lock(1) = LOCKED
                finding(3) = 0; unchanged
                """);
        script.sentence("19", "BEYOND: it has no such LINK", FORK + """
                route(); route(); via(2, 0, 2, 0); via(3, 1, 0, 0); remember; lock(2) = BEYOND; lock(3) = BEYOND
                unchanged
                """);
        script.sentence("19", "LOCKED comes ahead of BEYOND", FORK + """
                route(); via(2, 0, 2, 0); lock(0) = 1; lock(2) = LOCKED; finding(3) = 0
                """);
        script.sentence("19", "BEYOND comes ahead of UNDER", FORK + """
                route(); via(2, 0, 2, 0); wagon(0, 0, 2, 4, 20); lock(2) = BEYOND
                """);
        script.sentence("19", "UNDER: it is SET to another one, and something stands there", FORK + """
                wagon(0, 0, 2, 4, 20); remember; lock(1) = UNDER; unchanged; lock(0) = 1
                """);
        script.sentence("19", "FOUND: the ROUTE", FORK + "lock(2) = NOTHING; lock(12) = BEYOND; lock(-1) = BEYOND");
    }

    private static void lockGivesBack() {
        // POINTS 0 to 3, each with two LINKS, and POINT 4 with one.
        String yard = """
                12 x track(2); 5 x point(i, 0); 5 x link(i, 0, i, 1); link(0, 0, 6, 0); link(1, 0, 7, 0)
                link(2, 0, 8, 0)
                link(3, 0, 9, 0); route(); route()
                """;
        script.sentence("19", "those that this act locked are free again and SET as they were (BEYOND)", yard + """
                via(0, 4, 1, 9); via(0, 0, 1, 1); via(0, 1, 0, 2); via(0, 2, 1, 0); turn(1, 1); turn(2, 1)
                remember; lock(0) = BEYOND; unchanged
                """);
        script.sentence("19", "those that this act locked are free again and SET as they were (LOCKED)", yard + """
                via(1, 3, 0, 0); lock(1) = 1; via(0, 0, 1, 1); via(0, 1, 1, 2); via(0, 3, 0, 3)
                remember; lock(0) = LOCKED; unchanged; lock(0) = LOCKED; finding(3) = 1; free(1); lock(0) = 3
                """);
        script.sentence("19", "those that this act locked are free again and SET as they were (UNDER)", yard + """
                wagon(0, 3, 0, 4, 20); via(0, 3, 1, 99); via(0, 0, 1, 1); via(0, 1, 1, 2); remember; lock(0) = UNDER
                unchanged
                """);
        script.sentence("19", ".. (those that another ROUTE locked are not)", yard + """
                via(1, 0, 1, 0); via(1, 1, 1, 0); lock(1) = 2; via(0, 2, 1, 0); via(0, 0, 1, 1); lock(0) = LOCKED
                pointed(0, 4) = 1; pointed(1, 4) = 1; pointed(0, 3) = 1; pointed(2, 4) = NONE; pointed(2, 3) = 0
                """);
        script.sentence("19", "All ENTRIES of a ROUTE (8)", """
                8 x track(2); 8 x point(i, 0); 8 x link(i, 0, i, 1); route(); 8 x via(0, i, 0, 0); lock(0) = 8
                8 x pointed(i, 4) = 0; free(0) = 8; 8 x pointed(i, 4) = NONE
                """);
    }

    private static void free() {
        script.sentence("20", "All POINTS that a ROUTE locks are free: how many", FORK + """
                free(0) = 0; lock(0) = 1; free(1) = 0; pointed(0, 4) = 0; free(0) = 1; free(0) = 0; pointed(0, 4) = NONE
                """);
        script.sentence("20", "(they stay SET)", FORK + "lock(1) = 1; free(1) = 1; pointed(0, 3) = 1");
        script.sentence("20", "FOUND: the ROUTE", FORK + """
                free(2) = NOTHING; free(11) = NOTHING; free(12) = BEYOND; free(-1) = BEYOND
                """);
    }

    private static void coupleOrder() {
        String yard = """
                track(6); wagon(0, 0, 0, 4, 20); wagon(0, 0, 1, 4, 20); wagon(0, 0, 2, 4, 20); wagon(0, 0, 5, 4, 20)
                table(1, 9)
                """;
        script.sentence("21", "COUPLED: it is", yard + """
                couple(0, 0) = 1; remember; couple(0, 0) = COUPLED; couple(1, 1) = COUPLED; unchanged; count(-5) = 5
                """);
        script.sentence("21", "RUNS: it does (ahead of CLOSED and NOTHING)", yard + """
                kick(0, 0) = 9; couple(0, 0) = RUNS; couple(0, 1) = RUNS; kick(3, 1) = 9; couple(3, 1) = RUNS
                """);
        script.sentence("21", "CLOSED", yard + "couple(0, 1) = CLOSED; couple(3, 0) = CLOSED");
        script.sentence("21", "NOTHING: nothing stands there", yard + "couple(2, 0) = NOTHING; couple(3, 1) = NOTHING");
        script.sentence("21", "RUNS: that does", yard + """
                kick(1, 0) = 9; couple(0, 0) = RUNS; couple(2, 1) = RUNS; trace =
                """);
        // What is coupled stands side by side always, so one that is coupled by that side is coupled to this THING.
        script.sentence("21", "COUPLED: that is, by the side that LOOKS back (its other side does not count)",
                yard + """
                couple(1, 0) = 2; couple(0, 0) = 1; couple(2, 1) = COUPLED; couple(1, 1) = COUPLED
                """);
        script.sentence("21", "COUPLED: .. or is of the same CONSIST", """
                track(2); link(0, 0, 0, 1); wagon(0, 0, 0, 4, 20); wagon(0, 0, 1, 4, 20); couple(0, 0) = 1
                remember; couple(0, 1) = COUPLED; couple(1, 0) = COUPLED; unchanged; trace(0) = NONE
                """);
        script.sentence("21", "BARRED: it does not SUIT that; or else that does not SUIT it (which is asked only then)",
                """
                track(3); wagon(4, 0, 0, 4, 20); wagon(1, 0, 1, 4, 20); wagon(0, 0, 2, 4, 20); remember
                couple(0, 0) = BARRED; trace = 19
                couple(1, 1) = BARRED; trace = 17 19
                unchanged; couple(1, 0) = 2; trace = 17 17
                """);
        script.sentence("21", "FOUND: the THING, the SIDE", yard + """
                couple(4, 9) = NOTHING; couple(72, 0) = BEYOND; couple(0, 2) = BEYOND; couple(0, -1) = BEYOND
                """);
    }

    private static void couple() {
        script.sentence("21", "All of both CONSISTS get the next SERIAL, and are TESTED no more", """
                track(4); 4 x wagon(0, 0, i, 4, 20); couple(0, 0); couple(2, 0); test(0) = 2; test(2) = 2
                thing(0, 6) = 5
                thing(3, 6) = 6; couple(1, 0) = 2; 4 x thing(i, 6) = 7; 4 x thing(i, 10) = 0; count(-5) = 7
                """);
        script.sentence("21", "SERIAL (none is given where it is FOUND)", """
                track(2); wagon(0, 0, 0, 4, 20); couple(0, 0) = NOTHING; couple(0, 1) = CLOSED; count(-5) = 1
                wagon(0, 0, 1, 4, 20)
                thing(1, 6) = 2
                """);
        script.sentence("21", "what stands at THE NEXT PLACE there (over a LINK, side to side)", """
                track(1); track(1); link(0, 1, 1, 1); wagon(0, 0, 0, 4, 20); wagon(0, 1, 0, 4, 20); couple(0, 0) = 1
                thing(0, 4) = 1; thing(1, 4) = 0; thing(0, 5) = NONE; thing(1, 5) = NONE
                anew; track(1); track(1); link(0, 0, 1, 0); wagon(0, 0, 0, 4, 20); wagon(0, 1, 0, 4, 20)
                couple(0, 1) = 1
                thing(0, 5) = 1; thing(1, 5) = 0; thing(0, 4) = NONE; thing(1, 4) = NONE
                """);
    }

    private static void part() {
        String yard = "track(6); 4 x wagon(0, 0, i, 4, 20); couple(0, 0); couple(1, 0); couple(2, 0); test(0) = 4\n";
        script.sentence("22", "NOTHING: it is not", yard + """
                remember; part(0, 1) = NOTHING; part(3, 0) = NOTHING; unchanged; count(-5) = 7; part(0, 0) = 1
                part(0, 0) = NOTHING; part(1, 1) = NOTHING
                """);
        script.sentence("22", "get the next SERIAL, then all of the other's the one behind; none is TESTED any more",
                yard + """
                part(1, 0) = 2; thing(0, 6) = 8; thing(1, 6) = 8; thing(2, 6) = 9; thing(3, 6) = 9; 4 x thing(i, 10) = 0
                count(-5) = 9; consist(0, 2) = NONE; consist(3, 2) = NONE
                """);
        script.sentence("22", ".. (named from the other side)", yard + """
                part(2, 1) = 1; thing(0, 6) = 9; thing(1, 6) = 9; thing(2, 6) = 8; thing(3, 6) = 8
                """);
        script.sentence("22", ".. (at an end)", yard + """
                part(3, 1) = 2; thing(3, 6) = 8; 3 x thing(i, 6) = 9; thing(2, 4) = NONE; thing(2, 5) = 1
                """);
        script.sentence("22", "FOUND: the THING, the SIDE", yard + """
                part(4, 9) = NOTHING; part(72, 0) = BEYOND; part(0, 2) = BEYOND; part(0, -1) = BEYOND
                4 x thing(i, 10) = 1
                """);
    }

    private static void pull() {
        String yard = "track(24); engine(false, 0, 0, 50); wagon(0, 0, 1, 4, 20); couple(0, 0)\n";
        script.each("23", "BAD: n is not 1 .. 200", yard + """
                pull(0, 0, N) = BAD; pull(9, 9, N) = BAD; count(-8) = 1; thing(0, 2) = 0
                """, "N", "MIN", "-1", "0", "201", "MAX");
        script.sentence("23", "goes n STEPS ..: n (the least)", yard + """
                pull(0, 0, 1) = 1; thing(0, 2) = 1; thing(1, 2) = 2; finding(2) = 0
                """);
        script.sentence("23", "goes n STEPS ..: n (the most)", """
                track(3); link(0, 0, 0, 1); engine(false, 0, 0, 50); pull(0, 0, 200) = 200; finding(2) = 200
                finding(0) = 0
                thing(0, 2) = 2
                """);
        script.sentence("23", "a STEP's: those ahead of it stay", yard + """
                pull(0, 0, 200) = CLOSED; finding(2) = 22; thing(1, 2) = 23; thing(0, 2) = 22; pull(0, 0, 1) = CLOSED
                finding(2) = 0; undo(); undo(); thing(0, 2) = 0
                """);
        script.sentence("23", "a STEP's: those ahead of it stay (TAKEN)", yard + """
                wagon(0, 0, 9, 4, 20); pull(0, 0, 23) = TAKEN; finding(2) = 7; thing(1, 2) = 8
                """);
        script.sentence("23", "a STEP's: those ahead of it stay (HELD, JAMS as ahead of the STEP)", yard + """
                jam(1, 4); hold(1, 6); jam(0, 50); pull(0, 0, 23) = HELD; finding(1) = 6; finding(2) = 3
                thing(1, 2) = 4
                thing(1, 8) = 1; thing(0, 8) = 47
                """);
        script.sentence("23", "FOUND: the ENGINE, the SIDE", yard + """
                remember; pull(1, 0, 1) = NOT_SUCH; pull(2, 0, 1) = NOTHING; pull(72, 0, 1) = BEYOND
                pull(0, 2, 1) = BEYOND
                pull(0, -1, 1) = BEYOND; unchanged
                """);
    }

    private static void pullWeak() {
        // 80 + 5 and the TARE, against 20 times 5.
        script.sentence("23", "WEAK: the sum of WEIGHT .. is above 20 times the sum of PULLS (the same is not)", """
                track(9); engine(false, 0, 1, 5); wagon(0, 0, 2, 4, 15); couple(0, 0); pull(0, 0, 1) = 1
                anew; track(9); engine(false, 0, 1, 5); wagon(0, 0, 2, 4, 16); couple(0, 0); remember
                pull(0, 0, 1) = WEAK; trace = 1 5 15
                finding(2) = 0; unchanged
                """);
        script.sentence("23", "WEAK comes ahead of a STEP's", "track(1); engine(false, 0, 0, 0); pull(0, 0, 1) = WEAK");
        script.sentence("23", "the sum of PULLS of all ENGINES among them, in ORDER (summed behind that of WEIGHT)", """
                track(9); engine(true, 0, 0, 1); wagon(1, 0, 1, 4, 20); engine(false, 0, 2, 7); engine(true, 0, 3, 9)
                couple(0, 0); couple(1, 0); couple(2, 0); pull(0, 0, 1) = 1
                trace = 5 5 2 1 5 16 15 15 16
                """);
        script.sentence("23", "WEAK: a SLUG alone", """
                track(2); engine(true, 0, 0, 100); pull(0, 0, 1) = WEAK; trace = 5 16
                """);
        script.sentence("23", "FOUND: .. the SIDE (ahead of WEAK)", """
                track(2); engine(true, 0, 0, 100); pull(0, 2, 1) = BEYOND; trace =
                """);
    }

    private static void kick() {
        // HEAVY of a FLAT is 2 TARE and AXLES.
        script.sentence("24", "k: HEAVY by 40, rounded down", """
                track(9); 8 x table(i, i+11); wagon(0, 0, 0, 1, 19); wagon(0, 0, 2, 2, 19); wagon(0, 0, 4, 1, 39)
                wagon(0, 0, 6, 2, 39); kick(0, 0) = 11; kick(1, 0) = 12; kick(2, 0) = 12; kick(3, 0) = 13
                """);
        script.sentence("24", "k: .. at most 7", """
                track(4); 8 x table(i, i+11); wagon(0, 0, 0, 0, 100); load(0, 0, 1); piece(0, 0, 0, 39); kick(0, 0) = 17
                undo(); piece(0, 0, 0, 40); kick(0, 0) = 18; undo(); piece(0, 0, 0, 60); kick(0, 0) = 18; undo()
                load(0, 0, 20)
                20 x piece(0, i, 0, 120); kick(0, 0) = 18; thing(0, 9) = 18
                """);
        script.sentence("24", "if that is 0 it does not RUN (that is no FINDING)", """
                track(4); wagon(0, 0, 0, 4, 20); kick(0, 0) = 0; finding(0) = 0; trace = 12 1
                thing(0, 9) = 0; count(-3) = 0; kick(0, 0) = 0; step(1) = 0; log(1, 1) = 0
                """);
        script.sentence("24", "D: the most", """
                track(4); table(1, 99); wagon(0, 0, 0, 4, 20); kick(0, 0) = 99; thing(0, 9) = 99
                """);
        script.sentence("24", "COUPLED: it is, by either", """
                track(4); table(1, 9); 3 x wagon(0, 0, i, 4, 20); couple(0, 0); couple(1, 0); kick(0, 0) = COUPLED
                kick(0, 1) = COUPLED; kick(1, 1) = COUPLED; kick(2, 0) = COUPLED; kick(2, 1) = COUPLED; trace =
                part(1, 0); part(1, 1); kick(0, 0) = 9; kick(1, 0) = 9; kick(2, 0) = 9
                """);
        script.sentence("24", "RUNS: it does", """
                track(4); table(1, 9); wagon(0, 0, 0, 4, 20); kick(0, 0) = 9; remember; kick(0, 0) = RUNS
                kick(0, 1) = RUNS
                unchanged; kick(0, 2) = BEYOND
                """);
        script.sentence("24", "FOUND: the WAGON, the SIDE", """
                track(4); engine(false, 0, 0, 4); wagon(0, 0, 1, 4, 20); kick(0, 0) = NOT_SUCH; kick(2, 0) = NOTHING
                kick(72, 0) = BEYOND; kick(1, 2) = BEYOND; kick(1, -1) = BEYOND
                """);
        script.sentence("24", "begins to RUN to a SIDE", """
                track(5); table(1, 1); wagon(0, 0, 2, 4, 20); kick(0, 0) = 1; step(1) = 0; thing(0, 2) = 3
                kick(0, 1) = 1
                step(1) = 0; thing(0, 2) = 2
                """);
    }

    private static void step() {
        String yard = "track(24); table(1, 3); wagon(0, 0, 1, 4, 20); kick(0, 0) = 3\n";
        script.each("25", "BAD: n is not 1 .. 50", yard + "step(N) = BAD; thing(0, 2) = 1; count(-8) = 1",
                "N", "MIN", "-1", "0", "51", "MAX");
        script.sentence("25", "n times (the least)", yard + "step(1) = 1; thing(0, 2) = 2; thing(0, 9) = 2");
        script.sentence("25", "n times (the most)", """
                track(3); link(0, 0, 0, 1); table(1, 99); wagon(0, 0, 0, 4, 20); kick(0, 0) = 99; step(50) = 1
                thing(0, 9) = 49
                thing(0, 2) = 2; step(48) = 1; thing(0, 9) = 1; step(1) = 0; thing(0, 9) = 0; thing(0, 2) = 0
                """);
        script.sentence("25", "one whose D is 0 then, whether it stayed or went, RUNS no more (it went)", yard + """
                step(3) = 0; thing(0, 2) = 4; thing(0, 9) = 0; count(-3) = 0; count(-4) = 0; kick(0, 0) = 3
                """);
        script.sentence("25", "one whose D is 0 then, whether it stayed or went, RUNS no more (it stayed)", """
                track(9); table(1, 1); table(2, 9); wagon(0, 0, 1, 4, 20); wagon(0, 0, 2, 8, 40); kick(0, 0) = 1
                kick(1, 0) = 9
                step(1) = 1; thing(0, 2) = 1; thing(0, 9) = 0; thing(1, 2) = 3; count(-4) = 0
                """);
        script.sentence("25", "How many RUN then (none)", """
                track(2); step(1) = 0; step(50) = 0; wagon(0, 0, 0, 4, 20); step(1) = 0
                """);
        script.sentence("25", "(no FINDING: FINDING and TRACE are as they were)", yard + """
                trace = 12 1
                at(9, 9) = NOTHING; step(1) = 1; finding(0) = 1; kick(0, 0) = RUNS; step(2) = 0; finding(0) = 16
                """);
    }

    private static void stepEnds() {
        script.sentence("25", "CLOSED: it RUNS no more", """
                track(2); table(1, 9); wagon(0, 0, 0, 4, 20); kick(0, 0) = 9; step(1) = 1; step(1) = 0; thing(0, 2) = 1
                thing(0, 9) = 0; count(-4) = 0; couple(0, 0) = CLOSED
                """);
        script.sentence("25", "it holds one that RUNS: D is 1 less, it stays", """
                track(9); table(1, 5); wagon(0, 0, 1, 4, 20); wagon(0, 0, 2, 4, 20); kick(0, 0); kick(1, 0); step(1) = 2
                thing(0, 2) = 1; thing(0, 9) = 4; thing(1, 2) = 3; thing(1, 9) = 4; step(1) = 2; thing(0, 2) = 2
                count(-4) = 0
                """);
        script.sentence("25", "it holds one that RUNS (two that run at one another stay till D is 0)", """
                track(4); table(1, 3); wagon(0, 0, 1, 4, 20); wagon(0, 0, 2, 4, 20); kick(0, 0); kick(1, 1); step(2) = 2
                thing(0, 9) = 1; thing(1, 9) = 1; step(1) = 0; thing(0, 2) = 1; thing(1, 2) = 2; count(-4) = 1
                """);
        script.sentence("25", "it holds something else: it RUNS no more, DAMPS are 1 more", """
                track(4); table(1, 5); wagon(0, 0, 1, 4, 20); engine(false, 0, 2, 4); kick(0, 0); step(1) = 0
                thing(0, 9) = 0
                thing(0, 2) = 1; count(-4) = 1; kick(0, 0); step(1) = 0; count(-4) = 2; undo(); count(-4) = 1; back()
                count(-4) = 2
                """);
        script.sentence("25", "in the order in which they began", """
                track(9); table(1, 5); wagon(0, 0, 1, 4, 20); wagon(0, 0, 2, 4, 20); kick(1, 0); kick(0, 0); step(1) = 2
                thing(0, 2) = 2; thing(1, 2) = 3; thing(0, 9) = 4
                """);
        script.sentence("25", "in the order in which they began (one that began again is the last)", """
                track(9); table(1, 2); wagon(0, 0, 2, 4, 20); wagon(0, 0, 3, 4, 20); wagon(0, 0, 8, 4, 20); kick(0, 0)
                kick(1, 0)
                kick(2, 0); step(1) = 2; thing(0, 9) = 1; thing(1, 2) = 4; step(1) = 0; thing(0, 2) = 3; thing(1, 2) = 5
                kick(1, 0); kick(0, 0); step(1) = 2; thing(1, 2) = 6; thing(0, 2) = 4
                """);
        // 0 stops first, so that 1 to 4 come up: each goes ahead of the one behind it, so none is in another's way.
        script.sentence("25", "in the order in which they began (where one of them stopped)", """
                track(9); table(1, 9); wagon(0, 0, 0, 4, 20); 4 x wagon(0, 0, i+2, 4, 20); kick(0, 1); kick(4, 0)
                kick(3, 0)
                kick(2, 0); kick(1, 0); step(1) = 4; thing(0, 9) = 0; thing(4, 2) = 6; thing(3, 2) = 5; thing(2, 2) = 4
                thing(1, 2) = 3; step(1) = 4; thing(4, 2) = 7; thing(3, 2) = 6; thing(2, 2) = 5; thing(1, 2) = 4
                thing(1, 9) = 7
                """);
        script.sentence("25", "in the order in which they began (where one in the middle stopped)", """
                track(9); track(1); table(1, 9); wagon(0, 0, 3, 4, 20); wagon(0, 0, 4, 4, 20); wagon(0, 1, 0, 4, 20)
                kick(1, 0)
                kick(2, 0); kick(0, 0); step(1) = 2; thing(1, 2) = 5; thing(0, 2) = 4; thing(2, 9) = 0; step(1) = 2
                thing(1, 2) = 6; thing(0, 2) = 5; thing(0, 9) = 7
                """);
        script.sentence("25", "else it goes there (LOOKS as a LEAD)", """
                track(2); track(2); link(0, 1, 1, 1); link(1, 0, 0, 0); table(1, 9); wagon(0, 0, 1, 4, 20); kick(0, 0)
                step(1) = 1
                thing(0, 1) = 1; thing(0, 2) = 1; thing(0, 3) = 0; step(1) = 1; thing(0, 2) = 0; step(1) = 1
                thing(0, 1) = 0
                thing(0, 2) = 0; thing(0, 3) = 1
                anew; track(2); track(2); link(0, 1, 1, 1); table(1, 9); wagon(0, 1, 1, 4, 20); kick(0, 0); step(1) = 1
                thing(0, 1) = 0; thing(0, 2) = 1; thing(0, 3) = 0
                """);
    }

    private static void test() {
        // 2 BRAKE of an EMPTY is 2 AXLES: 4 here; PER AXLE of 9 and 2 is 4, of 10 and 2 is 5.
        script.sentence("26", "2 times BRAKE is not below PER AXLE (the same will do)", """
                track(4); wagon(4, 0, 0, 2, 9); wagon(4, 0, 2, 2, 10); test(0) = 1; thing(0, 10) = 1; test(1) = 0
                thing(1, 10) = 0
                """);
        script.sentence("26", "if of all, all are TESTED, else none is", """
                track(4); 3 x wagon(4, 0, i, 2, 9); couple(0, 0); couple(1, 0); test(1) = 3; 3 x thing(i, 10) = 1
                wagon(4, 0, 3, 2, 10); couple(2, 0); 3 x thing(i, 10) = 0; test(0) = 3; 4 x thing(i, 10) = 0
                """);
        script.sentence("26", "else none is (those that were)", """
                track(4); wagon(0, 0, 0, 4, 100); wagon(0, 0, 1, 4, 20); couple(0, 0); test(0) = 2; thing(1, 10) = 1
                load(0, 0, 20); 20 x piece(0, i, 0, 120); test(1) = 1; thing(0, 10) = 0; thing(1, 10) = 0
                """);
        script.sentence("26", "(BRAKE first)", "track(2); wagon(2, 0, 0, 4, 9); test(0) = 1; trace = 7 6 14 3 2 1");
        script.sentence("26", "FOUND: .. ZERO", """
                track(4); wagon(0, 0, 0, 0, 9); wagon(0, 0, 1, 4, 9); test(1) = 1; test(0) = ZERO; trace = 6 14 1
                couple(0, 0); test(0) = ZERO; trace = 6 14 1 6 14 1
                undo(); undo(); thing(1, 10) = 1; thing(0, 10) = 0
                """);
        script.sentence("26", "FOUND: .. ZERO (those ahead are not TESTED, nor less)", """
                track(4); wagon(0, 0, 0, 0, 9); wagon(0, 0, 1, 4, 9); couple(0, 0); remember; test(0) = ZERO; unchanged
                """);
        script.sentence("26", "FOUND: the THING", "track(1); test(0) = NOTHING; test(72) = BEYOND; test(-1) = BEYOND");
    }

    private static void leave() {
        String yard = "track(5); engine(false, 0, 0, 50); wagon(0, 0, 1, 4, 20)\n";
        script.sentence("27", "UNTESTED: one is (ahead of CLOSED)", yard + """
                remember; leave(0) = UNTESTED; unchanged; exit(0, 0, true); leave(0) = UNTESTED; test(0); leave(0) = 1
                """);
        script.sentence("27", "UNTESTED: one is, in ORDER (one of two)", """
                track(5); exit(0, 0, true); engine(false, 0, 0, 50); wagon(4, 0, 1, 2, 10); couple(0, 0); test(0) = 1
                leave(0) = UNTESTED
                """);
        script.sentence("27", "(alone: SIDE 0)", """
                track(2); exit(0, 1, true); engine(false, 0, 1, 50); test(0); leave(0) = 1; at(0, 1) = NONE
                anew; track(1); exit(0, 1, true); engine(false, 0, 0, 50); test(0); leave(0) = 1
                """);
        script.sentence("27", "nor else the last one, by its other side (alone: SIDE 1)", """
                track(2); exit(0, 0, true); engine(false, 0, 0, 50); test(0); leave(0) = 1; at(0, 0) = NONE
                anew; track(1); exit(0, 0, true); engine(false, 0, 0, 50); test(0); leave(0) = 1
                """);
        script.sentence("27", "CLOSED: neither .. stands at the PLACE at an END that leads out", yard + """
                test(0); leave(0) = CLOSED; exit(0, 1, true); remember; leave(0) = CLOSED; unchanged; exit(0, 0, true)
                exit(0, 0, false); leave(0) = CLOSED
                """);
        script.sentence("27", "CLOSED: neither .. stands at the PLACE at an END (one is on the way)", """
                track(4); exit(0, 0, true); exit(0, 1, true); engine(false, 0, 1, 50); wagon(0, 0, 2, 4, 20)
                couple(0, 0); test(0)
                leave(0) = CLOSED; pull(0, 0, 1); leave(0) = 2; undo(); undo(); pull(0, 1, 1); leave(0) = 2
                """);
        script.sentence("27", "CLOSED: .. and looks there (a coupled side does not)", """
                2 x track(1); link(0, 1, 1, 0); exit(0, 1, true); exit(1, 0, true); engine(false, 0, 0, 50)
                wagon(0, 1, 0, 4, 20); couple(0, 0); test(0) = 2; leave(0) = CLOSED; exit(1, 1, true); leave(0) = 2
                """);
        script.sentence("27", "CLOSED: .. (one in the middle does not count)", """
                3 x track(1); link(0, 1, 1, 0); link(1, 1, 2, 0); exit(1, 0, true); exit(1, 1, true)
                wagon(0, 0, 0, 4, 20)
                engine(false, 1, 0, 50); wagon(0, 2, 0, 4, 20); couple(1, 0); couple(1, 1); test(1) = 3
                leave(1) = CLOSED
                exit(0, 0, true); leave(1) = 3
                """);
        script.sentence("27", "leaves (nothing stands there any more): how many THINGS", """
                track(3); exit(0, 0, true); engine(false, 0, 0, 50); wagon(0, 0, 1, 4, 20); wagon(0, 0, 2, 4, 20)
                couple(0, 0)
                test(0); leave(0) = 2; at(0, 0) = NONE; at(0, 1) = NONE; at(0, 2) = 2; count(-2) = 1; count(-1) = 3
                leave(0) = NOTHING; thing(1, 0) = NOTHING; undo() = 1; undo() = 1; at(0, 1) = 1; count(-2) = 3
                meet(0, 0, 1) = 1
                """);
        script.sentence("27", "FOUND: the ENGINE", yard + """
                leave(1) = NOT_SUCH; leave(2) = NOTHING; leave(72) = BEYOND; leave(-1) = BEYOND
                """);
    }

    private static void roll() {
        String yard = "track(12); engine(false, 0, 1, 4); engine(true, 0, 2, 4); wagon(0, 0, 4, 4, 20); track(3)\n";
        script.sentence("28", "(all NOTHING at first)", "8 x rolled(i) = NONE");
        script.sentence("28", "at its places from 0 on: n", yard + """
                roll(0, 1, 3) = 3; rolled(0) = 0; rolled(1) = 1; rolled(2) = NONE; roll(0, 2, 1) = 1; rolled(0) = 1
                rolled(1) = 1
                """);
        script.sentence("28", "n (none)", yard + """
                roll(0, 1, 3); roll(0, 0, 0) = 0; roll(0, 12, 0) = 0; rolled(0) = 0; rolled(1) = 1
                """);
        script.each("28", "BEYOND: i .. below 0", yard + """
                roll(0, I, 1) = BEYOND; roll(0, I, 0) = BEYOND; roll(0, I, 8) = BEYOND
                """, "I", "MIN", "-1", "-8");
        script.each("28", "BEYOND: .. n below 0", yard + """
                roll(0, 0, N) = BEYOND; roll(0, 5, N) = BEYOND; roll(0, MAX, N) = BEYOND
                """, "N", "MIN", "-1", "-8");
        script.sentence("28", "BEYOND: .. more than the TRACK .. has", yard + """
                roll(0, 11, 1) = 1; roll(0, 11, 2) = BEYOND; roll(0, 12, 1) = BEYOND; roll(0, 13, 0) = BEYOND
                roll(0, 5, 7) = 7
                roll(0, 5, 8) = BEYOND; roll(0, MAX, 0) = BEYOND; roll(0, MAX, 1) = BEYOND; roll(0, MAX, MAX) = BEYOND
                roll(1, 0, 3) = 3; roll(1, 0, 4) = BEYOND; roll(1, 1, 3) = BEYOND; roll(1, 3, 0) = 0
                roll(1, 4, 0) = BEYOND
                """);
        script.sentence("28", "BEYOND: .. or the ROW, has", yard + """
                store(0, 3); roll(0, 1, 9) = BEYOND; roll(0, 0, 12) = BEYOND; roll(0, 3, MAX) = BEYOND; rolled(3) = 0
                rolled(0) = NONE
                anew; track(8); roll(0, 0, 8) = 8; roll(0, 0, 9) = BEYOND
                """);
        script.sentence("28", "STORE: the first that is a WAGON: those ahead of it have come", yard + """
                store(0, 3); store(1, 4); store(0, 2); roll(0, 1, 5) = STORE; rolled(0) = 0; rolled(1) = 1
                rolled(2) = NONE
                rolled(3) = 0; rolled(4) = 1; roll(0, 4, 1) = STORE; rolled(0) = 0
                """);
        script.sentence("28", "BEYOND comes ahead of STORE", yard + """
                store(0, 7); roll(0, 4, 9) = BEYOND; roll(0, 4, 10) = BEYOND; rolled(7) = 0
                """);
        script.sentence("28", "(Where nothing stands NOTHING comes.)", yard + """
                8 x store(0, i); roll(0, 5, 7) = 7; 7 x rolled(i) = NONE; rolled(7) = 0
                """);
        script.sentence("28", "FOUND: the TRACK", yard + """
                roll(2, -1, -1) = NOTHING; roll(24, 0, 0) = BEYOND; roll(-1, 0, 0) = BEYOND
                """);
    }

    private static void store() {
        String yard = "track(4); engine(true, 0, 0, 4); wagon(0, 0, 1, 4, 20); engine(false, 0, 2, 4)\n";
        script.each("29", "BEYOND", yard + """
                store(0, I) = BEYOND; store(1, I) = BEYOND; 8 x rolled(i) = NONE
                """, "I", "MIN", "-1", "8", "MAX");
        script.sentence("29", "STORE: it is no ENGINE (behind BEYOND)", yard + """
                store(1, 0) = STORE; store(1, 7) = STORE; rolled(0) = NONE; store(1, 8) = BEYOND
                """);
        script.sentence("29", "Place i of ROW gets a THING: 1", yard + """
                store(0, 0) = 1; store(2, 7) = 1; rolled(0) = 0; rolled(7) = 2; store(2, 0) = 1; rolled(0) = 2
                store(1, 0) = STORE
                rolled(0) = 2
                """);
        script.sentence("29", "FOUND: the THING (ahead of BEYOND)", yard + """
                store(3, 9) = NOTHING; store(72, 9) = BEYOND; store(3, 0) = NOTHING
                """);
    }
}
