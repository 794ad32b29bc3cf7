/** Each sentence of promises 1 to 13 that names a boundary case. */
final class MakingEdgesTest {
    private static final Script script = new Script();

    public static void main(String[] args) {
        newObject();
        track();
        point();
        link();
        exit();
        wagon();
        engine();
        bar();
        table();
        route();
        via();
        load();
        piece();
        script.end();
    }

    private static void newObject() {
        script.sentence("1", "An empty yard.", """
                count(0) = 0; count(-1) = 0; count(-2) = 0; count(-3) = 0; count(-4) = 0; count(-5) = 0; count(-6) = 0
                count(-7) = 0; count(-8) = 0; count(-9) = 0; 17 x count(i+1) = 0; digest() = 7; undo() = 0; back() = 0
                finding(0) = 0; finding(1) = NONE; finding(2) = 0; finding(3) = NONE; trace(0) = NONE; log(0, 0) = NONE
                step(50) = 0; move(0, 0) = NONE; proof(0) = NONE; spoil(0, 0) = NONE; check() = 0; bound() = 0
                wipe() = 0
                8 x rolled(i) = NONE
                """);
        script.sentence("1", "An empty yard.: nothing was made", """
                at(0, 0) = NOTHING; thing(0, 0) = NOTHING; pointed(0, 0) = NOTHING; lock(0) = NOTHING
                pull(0, 0, 1) = NOTHING
                """);
    }

    private static void track() {
        script.each("2", "BAD: n is 0, or above 24", "track(N) = BAD; count(0) = 0", "N", "0", "25", "26", "MAX");
        script.each("2", "A TRACK of n PLACES (the least, the most)", """
                track(N) = 0; count(0) = 1
                """, "N", "1", "2", "23", "24");
        script.each("2", "FOUND: SIZE: n is below 0", "track(N) = SIZE; count(0) = 0; track(4) = 0; finding(0) = 0",
                "N", "-1", "-2", "-4", "-24", "-25", "MIN");
        script.sentence("2", "FULL (also where n is below 0; BAD where it is 0)", """
                24 x track(1) = i; track(1) = FULL; track(24) = FULL; track(-1) = FULL; track(0) = BAD; track(25) = BAD
                count(0) = 24; count(5) = 0
                """);
    }

    private static void point() {
        script.each("3", "BAD: end is not 0, 1", """
                track(2); point(0, E) = BAD; count(-6) = 0
                """, "E", "MIN", "-1", "2", "MAX");
        script.sentence("3", "An END gets a POINT: its number", "track(2); point(0, 1) = 0; point(0, 0) = 1");
        script.sentence("3", "FOUND: .. TAKEN: it has one", """
                track(2); track(2); point(0, 1) = 0; remember; point(0, 1) = TAKEN; unchanged; point(0, 0) = 1
                point(1, 1) = 2; point(1, 1) = TAKEN; point(1, 0) = 3; point(1, 0) = TAKEN; point(0, 0) = TAKEN
                """);
        script.sentence("3", "FULL (ahead of the TRACK and of TAKEN)", """
                20 x track(1); track(1); 40 x point(i/2, i%2); point(20, 0) = FULL; point(0, 0) = FULL
                point(22, 0) = FULL
                point(24, 0) = FULL; point(20, 2) = BAD; finding(0) = 0
                """);
        script.sentence("3", "An END gets a POINT (its LINK is the POINT's first one)", """
                3 x track(2); link(0, 1, 1, 0); point(0, 1); pointed(0, 2) = 1; pointed(0, 3) = 0; link(0, 1, 2, 0)
                pointed(0, 2) = 2; engine(false, 0, 1, 50); pull(0, 0, 1) = 1; thing(0, 1) = 1
                """);
    }

    private static void link() {
        script.each("4", "BAD: an end is not 0, 1", """
                track(2); track(2); link(0, E, 1, 0) = BAD; link(0, 0, 1, E) = BAD; link(9, E, 9, E) = BAD
                link(0, 0, 1, 0) = 1
                """, "E", "MIN", "-1", "2", "MAX");
        script.sentence("4", "TAKEN: it is one END twice", """
                track(2); link(0, 0, 0, 0) = TAKEN; link(0, 1, 0, 1) = TAKEN; point(0, 0); link(0, 0, 0, 0) = TAKEN
                pointed(0, 2) = 0; link(0, 0, 0, 1) = 1; pointed(0, 2) = 1
                """);
        script.sentence("4", "TAKEN: .. they are joined", """
                track(2); track(2); point(0, 0); point(1, 1); link(0, 0, 1, 1) = 1; link(0, 0, 1, 1) = TAKEN
                link(1, 1, 0, 0) = TAKEN; pointed(0, 2) = 1; pointed(1, 2) = 1
                """);
        script.sentence("4", "TAKEN: .. one has as many as it may (1 without a POINT)", """
                4 x track(2); link(0, 0, 1, 0); link(0, 0, 2, 0) = TAKEN; link(2, 0, 0, 0) = TAKEN
                link(1, 0, 2, 0) = TAKEN
                link(2, 0, 1, 0) = TAKEN; link(2, 0, 3, 0) = 1
                """);
        script.sentence("4", "TAKEN: .. one has as many as it may (3 with a POINT)", """
                6 x track(2); point(0, 0); point(4, 0); link(0, 0, 1, 0); link(2, 0, 0, 0); link(0, 0, 3, 0)
                pointed(0, 2) = 3
                link(0, 0, 4, 0) = TAKEN; link(4, 0, 0, 0) = TAKEN; pointed(0, 2) = 3; pointed(1, 2) = 0
                link(1, 0, 4, 0) = TAKEN; pointed(1, 2) = 0; link(4, 0, 5, 0) = 1
                """);
        script.sentence("4", "FOUND: the TRACKS (ahead of TAKEN)", """
                track(2); link(0, 0, 0, 1); link(0, 0, 1, 0) = NOTHING; link(1, 0, 0, 0) = NOTHING
                link(1, 0, 1, 0) = NOTHING
                link(24, 0, 24, 0) = BEYOND; link(-1, 0, 0, 0) = BEYOND
                """);
    }

    private static void exit() {
        script.each("5", "BAD: end", """
                track(2); exit(0, E, true) = BAD; exit(9, E, false) = BAD
                """, "E", "MIN", "-1", "2", "MAX");
        script.sentence("5", "1 if it did, else 0", """
                track(2); exit(0, 0, false) = 0; exit(0, 0, true) = 0; exit(0, 0, true) = 1; exit(0, 1, true) = 0
                exit(0, 0, false) = 1; exit(0, 0, false) = 0; exit(0, 1, false) = 1
                """);
        script.sentence("5", "An END leads out of the yard (or not)", """
                track(1); engine(false, 0, 0, 50); test(0); leave(0) = CLOSED; exit(0, 0, true); exit(0, 0, false)
                leave(0) = CLOSED; exit(0, 0, true); leave(0) = 1
                """);
        script.sentence("5", "FOUND: the TRACK", """
                exit(0, 0, true) = NOTHING; exit(24, 0, true) = BEYOND; track(1); exit(0, 0, true) = 0
                """);
    }

    private static void wagon() {
        script.each("6", "BAD: kind is not 0 .. 4", "track(2); wagon(K, 0, 0, 4, 20) = BAD; count(-1) = 0",
                "K", "MIN", "-1", "5", "6", "MAX");
        script.each("6", "BAD: .. axles not 0 .. 8", "track(2); wagon(0, 0, 0, A, 20) = BAD; count(-1) = 0",
                "A", "MIN", "-1", "9", "MAX");
        script.each("6", "BAD: .. tare not 1 .. 100", "track(2); wagon(0, 0, 0, 4, T) = BAD; count(-1) = 0",
                "T", "MIN", "-1", "0", "101", "MAX");
        script.each("6", "A WAGON (kinds)", """
                track(2); wagon(K, 0, 0, 4, 20) = 0; thing(0, 0) = K
                """, "K", "0", "1", "2", "3", "4");
        script.each("6", "A WAGON (axles)", "track(2); wagon(2, 0, 0, A, 20) = 0; ask(0, 7) = A", "A", "0", "1", "8");
        script.each("6", "A WAGON (tare)", "track(2); wagon(4, 0, 0, 4, T) = 0; ask(0, 0) = T", "T", "1", "2", "100");
        script.sentence("6", "FULL: 72 THINGS were made (those that left, too)", """
                4 x track(24); exit(0, 0, true); engine(false, 0, 0, 50); test(0); leave(0) = 1
                71 x wagon(0, i/24, i%24, 4, 20) = i+1; count(-2) = 71; wagon(0, 3, 0, 4, 20) = FULL
                engine(true, 3, 0, 20) = FULL
                """);
        script.sentence("6", "FOUND: the TRACK, the PLACE, TAKEN", """
                track(2); wagon(0, 0, 1, 4, 20) = 0; wagon(0, 0, 1, 4, 20) = TAKEN; wagon(0, 0, 2, 4, 20) = BEYOND
                wagon(0, 0, -1, 4, 20) = BEYOND; wagon(0, 1, 1, 4, 20) = NOTHING; wagon(0, 24, 1, 4, 20) = BEYOND
                count(-1) = 1; count(-5) = 1; wagon(0, 0, 0, 4, 20) = 1
                """);
    }

    private static void engine() {
        script.each("7", "BAD: power is not 0 .. 100", """
                track(2); engine(false, 0, 0, P) = BAD; engine(true, 9, 0, P) = BAD
                """, "P", "MIN", "-1", "101", "MAX");
        script.each("7", "An ENGINE, or a SLUG (power)", """
                track(2); engine(false, 0, 0, P) = 0; ask(0, 4) = P; engine(true, 0, 1, P) = 1; couple(1, 1) = 0
                ask(1, 4) = P; thing(0, 0) = 5; thing(1, 0) = 6
                """, "P", "0", "1", "100");
        script.sentence("7", "FOUND: likewise", """
                track(2); engine(false, 0, 1, 4) = 0; engine(true, 0, 1, 4) = TAKEN; engine(true, 0, 2, 4) = BEYOND
                engine(true, 0, -1, 4) = BEYOND; engine(true, 1, 1, 4) = NOTHING; engine(true, 24, 1, 4) = BEYOND
                count(-1) = 1; engine(true, 0, 0, 4) = 1
                """);
        script.sentence("7", ".. where one stood that left", """
                track(2); exit(0, 0, true); engine(false, 0, 0, 4); test(0); engine(true, 0, 0, 4) = TAKEN; leave(0)
                engine(true, 0, 0, 4) = 1
                """);
    }

    private static void bar() {
        script.each("8", "BAD: a, b are not 0 .. 9", """
                bar(D, 0, true) = BAD; bar(0, D, true) = BAD; bar(D, D, false) = BAD
                """, "D", "MIN", "-1", "10", "MAX");
        script.each("8", "1 if they were, else 0 (either way; or no more)", """
                bar(D, 4, false) = 0; bar(D, 4, true) = 0; bar(4, D, true) = 1; bar(4, D, false) = 1
                bar(D, 4, true) = 0
                bar(D, 4, false) = 1; bar(4, D, false) = 0
                """, "D", "0", "4", "9");
        script.sentence("8", "BARRED from one another: no others", """
                bar(2, 5, true); bar(2, 2, false) = 0; bar(5, 5, false) = 0; bar(2, 6, false) = 0; bar(5, 2, false) = 1
                """);
    }

    private static void table() {
        script.each("9", "BAD: k is not 0 .. 7", "table(K, 5) = BAD", "K", "MIN", "-1", "8", "MAX");
        script.each("9", "BAD: .. d not 0 .. 99", "table(0, D) = BAD; table(0, 0) = 0", "D", "MIN", "-1", "100", "MAX");
        script.each("9", "Number k of TABLE becomes d: what it was", """
                table(K, 99) = 0; table(K, 1) = 99; table(K, 0) = 1
                """, "K", "0", "3", "7");
    }

    private static void route() {
        script.sentence("10", "FULL", "11 x route() = i; route() = 11; route() = FULL; route() = FULL; count(-7) = 12");
        script.sentence("10", "A ROUTE without ENTRIES", "route() = 0; lock(0) = 0; free(0) = 0");
    }

    private static void via() {
        String yard = "5 x track(2); 10 x point(i/2, i%2); route(); route()\n";
        script.each("11", "BAD: link is not 0 .. 2", yard + """
                via(0, 0, L, 0) = BAD; via(9, 99, L, 0) = BAD; via(0, 0, 0, 0) = 1
                """, "L", "MIN", "-1", "3", "MAX");
        script.each("11", "BAD: .. rank not 0 .. 99", yard + """
                via(0, 0, 0, R) = BAD; via(9, 99, 0, R) = BAD; via(0, 0, 0, 0) = 1
                """, "R", "MIN", "-1", "100", "MAX");
        script.sentence("11", "An ENTRY: how many the ROUTE has", yard + """
                via(0, 9, 2, 99) = 1; via(0, 0, 0, 0) = 2; via(1, 9, 1, 50) = 1
                """);
        script.sentence("11", "TAKEN: it has that POINT", yard + """
                via(0, 3, 0, 0) = 1; via(0, 3, 1, 1) = TAKEN; via(0, 4, 0, 0) = 2; via(0, 3, 0, 0) = TAKEN
                via(0, 4, 0, 0) = TAKEN; via(1, 3, 0, 0) = 1
                """);
        script.sentence("11", "TAKEN: .. or 8 ENTRIES", yard + """
                8 x via(0, i, 0, i) = i+1; via(0, 8, 0, 0) = TAKEN; via(0, 0, 0, 0) = TAKEN; via(1, 8, 0, 0) = 1
                """);
        script.sentence("11", "LOCKED: the ROUTE is (a POINT is locked by it)", """
                3 x track(2); point(0, 0); point(1, 0); link(0, 0, 2, 0); route(); route(); via(0, 0, 0, 0); lock(0) = 1
                via(0, 1, 0, 0) = LOCKED; finding(3) = 0; via(0, 0, 0, 0) = TAKEN; finding(3) = NONE
                via(1, 0, 0, 0) = 1; via(1, 1, 0, 0) = 2; free(0) = 1; via(0, 1, 0, 0) = 2
                """);
        script.sentence("11", "LOCKED: the ROUTE is: TAKEN comes ahead (8 ENTRIES)", """
                9 x track(2); 9 x point(i, 0); 9 x link(i, 0, i, 1); route(); 8 x via(0, i, 0, 0); lock(0) = 8
                via(0, 8, 0, 0) = TAKEN
                """);
        script.sentence("11", "LOCKED: a ROUTE without ENTRIES locks none", yard + "lock(0) = 0; via(0, 0, 0, 0) = 1");
        script.sentence("11", "FOUND: the ROUTE, the POINT (ahead of TAKEN and LOCKED)", yard + """
                8 x via(0, i, 0, 0); via(0, 10, 0, 0) = NOTHING; via(0, 40, 0, 0) = BEYOND; via(2, 0, 0, 0) = NOTHING
                via(12, 0, 0, 0) = BEYOND
                """);
    }

    private static void load() {
        String yard = "track(4); wagon(1, 0, 0, 4, 10); engine(false, 0, 1, 50)\n";
        script.each("12", "BAD: sort", yard + "load(0, S, 1) = BAD; load(9, S, -1) = BAD; ask(0, 6) = NOTHING", "S",
                "MIN", "-1", "2", "MAX");
        script.each("12", "BAD: .. n above 20", yard + """
                load(0, 0, N) = BAD; load(9, 0, N) = BAD; ask(0, 6) = NOTHING
                """, "N", "21", "MAX");
        script.each("12", "a new row of n pieces of a sort, all 0: n", yard + """
                load(0, 0, N) = N; ask(0, 6) = N; load(0, 1, N) = N; ask(0, 6) = N; piece(0, N, 1, 0) = BEYOND
                """, "N", "0", "1", "19", "20");
        script.sentence("12", "all 0", yard + """
                load(0, 0, 20); 20 x piece(0, i, 0, 5); ask(0, 0) = 130; load(0, 0, 20); ask(0, 0) = 30; load(0, 1, 20)
                ask(0, 0) = 30; piece(0, 0, 1, 3); ask(0, 0) = 33
                """);
        script.sentence("12", "all 0 (a shorter row, then a longer one)", yard + """
                load(0, 0, 20); 20 x piece(0, i, 0, 5); load(0, 0, 1); ask(0, 0) = 11; load(0, 0, 20); ask(0, 0) = 30
                piece(0, 19, 0, 1); ask(0, 0) = 31
                """);
        script.each("12", "FOUND: .. SIZE: n is below 0", yard + """
                load(0, 0, N) = SIZE; ask(0, 6) = NOTHING; load(0, 0, 3); load(0, 1, N) = SIZE; ask(0, 6) = 3
                piece(0, 0, 0, 1) = 1
                """, "N", "-1", "-20", "-21", "MIN");
        script.sentence("12", "FOUND: the WAGON (ahead of SIZE)", yard + """
                load(72, 0, -1) = BEYOND; load(-1, 0, -1) = BEYOND; load(2, 0, -1) = NOTHING; load(1, 0, -1) = NOT_SUCH
                """);
        script.sentence("12", "(It is not STATE, and forgets nothing.)", yard + """
                hold(0, 1); hold(0, 2); undo(); load(0, 0, 4) = 4; count(-8) = 1; count(-9) = 1; back() = 1
                ask(0, 6) = 4
                undo(); undo(); ask(0, 6) = 4; log(0, 0) = 1
                """);
    }

    private static void piece() {
        String yard = "track(4); wagon(0, 0, 0, 4, 10); "
                + "wagon(0, 0, 1, 4, 10); engine(false, 0, 2, 50); load(0, 0, 3)\n";
        script.each("13", "BAD: sort", yard + """
                piece(0, 0, S, 1) = BAD; piece(9, 0, S, 1) = BAD
                """, "S", "MIN", "-1", "2", "MAX");
        script.each("13", "BAD: .. v is not 0 .. 120", yard + """
                piece(0, 0, 0, V) = BAD; piece(9, 0, 0, V) = BAD; ask(0, 0) = 10
                """, "V", "MIN", "-1", "121", "MAX");
        script.sentence("13", "becomes v: 1 (the least, the most, and anew)", yard + """
                piece(0, 1, 0, 0) = 1; ask(0, 0) = 10; piece(0, 0, 0, 120) = 1; piece(0, 2, 0, 120) = 1; ask(0, 0) = 250
                piece(0, 0, 0, 0) = 1; ask(0, 0) = 130
                """);
        script.sentence("13", "the LOAD: NOT SUCH (ahead of BEYOND)", yard + """
                piece(0, 0, 1, 1) = NOT_SUCH; piece(0, 3, 1, 1) = NOT_SUCH; piece(0, -1, 1, 1) = NOT_SUCH
                ask(0, 0) = 10
                load(0, 1, 3); piece(0, 0, 0, 1) = NOT_SUCH; piece(0, 0, 1, 1) = 1
                """);
        script.sentence("13", "the LOAD: .. NOTHING (ahead of BEYOND, of either sort)", yard + """
                piece(1, 0, 0, 1) = NOTHING; piece(1, 0, 1, 1) = NOTHING; piece(1, -1, 1, 1) = NOTHING; ask(1, 0) = 10
                """);
        script.each("13", "BEYOND", yard + """
                piece(0, I, 0, 1) = BEYOND; ask(0, 0) = 10
                """, "I", "MIN", "-1", "3", "20", "MAX");
        script.sentence("13", "BEYOND (a row of none)", yard + """
                load(0, 0, 0); piece(0, 0, 0, 1) = BEYOND; piece(0, -1, 0, 1) = BEYOND
                """);
        script.sentence("13", "FOUND: the WAGON (ahead of the LOAD)", yard + """
                piece(72, 0, 0, 1) = BEYOND; piece(3, 0, 0, 1) = NOTHING; piece(2, 0, 0, 1) = NOT_SUCH
                """);
        script.sentence("13", "(Likewise.)", yard + """
                hold(0, 1); hold(0, 2); undo(); piece(0, 0, 0, 4) = 1; count(-8) = 1; back() = 1; undo(); undo()
                ask(0, 0) = 14
                """);
    }
}
