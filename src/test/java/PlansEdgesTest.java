/** Each sentence of part 4 of "Terms", and of promises 46 to 54, that names a boundary case. */
final class PlansEdgesTest {
    private static final Script script = new Script();

    /** ROOM for all ten WAGONS on each STACK. */
    private static final String ROOMY = "4 x room(i, 10)\n";

    public static void main(String[] args) {
        room();
        lay();
        wipe();
        movesOfPlans();
        planLeast();
        planByRule();
        planNone();
        planBad();
        move();
        bound();
        proof();
        spoil();
        checkOfLeast();
        checkOfRule();
        checkWithoutPlan();
        script.end();
    }

    private static void room() {
        script.each("46", "ROOM of a STACK becomes n: what it was (5 at first)", """
                room(S, 10) = 5; room(S, 1) = 10; room(S, 5) = 1
                """, "S", "0", "1", "2", "3");
        script.each("46", "BAD: (no such STACK)", "room(S, 5) = BAD", "S", "MIN", "-1", "4", "MAX");
        script.each("46", "BAD: (ROOM 1 .. 10)", """
                room(0, N) = BAD; room(0, 5) = 5
                """, "N", "MIN", "-1", "0", "11", "MAX");
        script.each("46", "BAD: also if START or GOAL has more there", """
                lay(GOAL, 2, 0); lay(GOAL, 2, 1); lay(GOAL, 2, 2); room(2, 2) = BAD; room(2, 3) = 5; room(2, 1) = BAD
                room(2, 3) = 3
                room(1, 1) = 5; wipe(); room(2, 1) = 3
                """, "GOAL", "false", "true");
    }

    private static void lay() {
        script.each("47", "BAD: no such STACK", """
                lay(false, S, 0) = BAD; lay(true, S, 0) = BAD; wipe() = 0
                """, "S", "MIN", "-1", "4", "MAX");
        script.each("47", "BAD: no such .. WAGON", """
                lay(false, 0, W) = BAD; lay(true, 0, W) = BAD; wipe() = 0
                """, "W", "MIN", "-1", "10", "MAX");
        script.each("47", "BAD: .. it has that WAGON", """
                lay(GOAL, 0, 9) = 1; lay(GOAL, 0, 9) = BAD; lay(GOAL, 3, 9) = BAD; lay(GOAL, 0, 0) = 2
                lay(GOAL, 0, 9) = BAD
                """, "GOAL", "false", "true");
        script.sentence("47", "BAD: .. it has that WAGON (START and GOAL each for itself)", """
                lay(true, 0, 9) = 1; lay(false, 0, 9) = 1; lay(false, 1, 8) = 1; lay(true, 2, 8) = 1
                """);
        script.each("47", "BAD: .. there is no ROOM", """
                5 x lay(GOAL, 1, i) = i+1; lay(GOAL, 1, 5) = BAD; room(1, 6) = 5; lay(GOAL, 1, 5) = 6
                lay(GOAL, 1, 6) = BAD; room(0, 1)
                lay(GOAL, 0, 6) = 1; lay(GOAL, 0, 7) = BAD
                """, "GOAL", "false", "true");
        script.each("47", "how many stand there (the most)", ROOMY + """
                10 x lay(GOAL, 3, i) = i+1; lay(GOAL, 3, 0) = BAD; lay(GOAL, 2, 9) = BAD
                """, "GOAL", "false", "true");
        script.each("47", "on a STACK: how many stand there", """
                lay(GOAL, 0, 0) = 1; lay(GOAL, 3, 9) = 1; lay(GOAL, 3, 1) = 2; lay(GOAL, 0, 2) = 2
                """, "GOAL", "false", "true");
    }

    private static void wipe() {
        script.sentence("48", "how many WAGONS START had", ROOMY + """
                wipe() = 0; 10 x lay(false, 0, i); wipe() = 10; wipe() = 0; lay(true, 0, 0); wipe() = 0
                """);
        script.sentence("48", "START, GOAL .. are empty", """
                lay(false, 0, 1); lay(true, 1, 1); wipe() = 1; lay(false, 1, 1) = 1; lay(true, 0, 1) = 1; plan(0) = 1
                move(0, 0) = 1
                """);
        script.sentence("48", "THE PLAN .. empty", """
                lay(false, 0, 1); lay(true, 1, 1); plan(0) = 1; wipe() = 1; move(0, 0) = NONE; proof(0) = NONE
                spoil(0, 0) = NONE
                check() = 0; bound() = 0
                """);
        script.sentence("48", "(ROOM stays)", """
                room(0, 1); wipe(); lay(false, 0, 1) = 1; lay(false, 0, 2) = BAD; room(0, 5) = 1
                """);
    }

    private static void movesOfPlans() {
        script.sentence("Terms 4", "A MOVE: .. the n upper WAGONS, 1 or more, as they stand", """
                3 x lay(false, 0, i); lay(true, 0, 0); lay(true, 3, 1); lay(true, 3, 2); plan(0) = 1; move(0, 0) = 0
                move(0, 1) = 3
                move(0, 2) = 2; check() = 1
                anew; 5 x lay(false, 0, i); 5 x lay(true, 1, i); plan(0) = 1; move(0, 2) = 5
                """);
        script.sentence("Terms 4", "A MOVE: .. if there is ROOM", """
                3 x lay(false, 0, i); 3 x lay(true, 1, i); plan(0) = 1; room(1, 3); plan(0) = 1; wipe()
                2 x lay(false, 0, i); lay(false, 1, 2)
                lay(true, 1, 2); lay(true, 1, 0); lay(true, 1, 1); plan(0) = 1; move(0, 2) = 2
                """);
        script.sentence("Terms 4", "always the MOVE with the least from, then to, then n, that leads to .. 1 less", """
                lay(false, 0, 0); lay(false, 1, 1); lay(true, 0, 1); lay(true, 1, 0); plan(0) = 3; move(0, 0) = 0
                move(0, 1) = 1; move(0, 2) = 1
                move(1, 0) = 1; move(1, 1) = 0; move(1, 2) = 2; move(2, 0) = 0; move(2, 1) = 1; move(2, 2) = 1
                """);
    }

    private static void planLeast() {
        script.sentence("49", "by LEAST (nothing to do)", """
                plan(0) = 0; check() = 1; move(0, 0) = NONE; proof(0) = 0; proof(1) = NONE
                """);
        script.sentence("49", "by LEAST (START is GOAL)", """
                3 x lay(false, 0, i); 3 x lay(true, 0, i); plan(0) = 0; proof(0) = 0; check() = 1
                """);
        script.sentence("49", "LEAST: more than 5 (five are not)", """
                5 x lay(false, 0, i); 5 x lay(true, 1, i); plan(0) = 1; lay(false, 2, 9); lay(true, 2, 9); plan(0) = BAD
                plan(1) = 9
                """);
        script.sentence("49", "by LEAST (five turned over)", """
                5 x lay(false, 3, i); lay(true, 3, 4); lay(true, 3, 3); lay(true, 3, 2); lay(true, 3, 1)
                lay(true, 3, 0); plan(0) = 6
                check() = 1; proof(0) = 6; proof(6) = 0; proof(7) = NONE
                """);
        script.sentence("49", "by LEAST (WAGONS of any numbers)", """
                lay(false, 0, 9); lay(false, 0, 0); lay(false, 0, 5); lay(true, 0, 5); lay(true, 0, 9); lay(true, 0, 0)
                plan(0) = 3; check() = 1
                """);
    }

    private static void planByRule() {
        script.sentence("49", "BY RULE (nothing to do)", """
                plan(1) = 0; check() = 1; move(0, 0) = NONE; proof(0) = NONE; 3 x lay(false, 0, i); 3 x lay(true, 0, i)
                plan(1) = 0; check() = 1
                """);
        script.sentence("Terms 4", "if s has that WAGON there, that is all", """
                2 x lay(false, 0, i); lay(true, 0, 0); lay(true, 1, 1); plan(1) = 1; move(0, 0) = 0; move(0, 1) = 1
                """);
        script.sentence("Terms 4", "to the STACK, another one, with the most ROOM left (of the same the least)", """
                2 x lay(false, 0, i); lay(true, 0, 1); lay(true, 0, 0); plan(1) = 4; move(0, 1) = 1; move(1, 1) = 2
                move(2, 0) = 1; move(2, 1) = 0
                move(3, 0) = 2; move(3, 1) = 0; room(3, 7); plan(1) = 5; move(0, 1) = 3; move(1, 1) = 3; move(2, 0) = 3
                move(2, 1) = 1
                move(3, 0) = 3; move(3, 1) = 0; move(4, 0) = 1; move(4, 1) = 0
                """);
        script.sentence("Terms 4", "to the STACK, another one (one that is worked already)", """
                lay(false, 1, 0); lay(false, 2, 1); lay(true, 1, 1); lay(true, 2, 0); plan(1) = 3; move(0, 0) = 1
                move(0, 1) = 0; move(1, 0) = 2; move(1, 1) = 1; move(2, 0) = 0; move(2, 1) = 2; check() = 1
                """);
        script.sentence("Terms 4", "that goes to the STACK, neither s nor t, with the most ROOM left (likewise)", """
                3 x lay(false, 1, i); lay(true, 0, 0); lay(true, 1, 1); lay(true, 1, 2); plan(1) = 5
                move(0, 0) = 1; move(0, 1) = 2; move(1, 0) = 1; move(1, 1) = 3; move(2, 0) = 1; move(2, 1) = 0
                move(3, 0) = 3; move(3, 1) = 1
                move(4, 0) = 2; move(4, 1) = 1; check() = 1
                """);
        script.sentence("Terms 4", "(Each is a MOVE of one WAGON.)", """
                3 x lay(false, 0, i); 3 x lay(true, 1, i); plan(1) = 5; 5 x move(i, 2) = 1; move(5, 2) = NONE
                """);
        script.sentence("49", "BY RULE (all ten)", ROOMY + """
                10 x lay(false, 0, i); lay(true, 0, 9); 9 x lay(true, 0, i); plan(1) = 25; check() = 1; move(24, 0) = 2
                move(25, 0) = NONE
                """);
    }

    private static void planNone() {
        String stuck = "4 x room(i, 1); 4 x lay(false, i, i); lay(true, 0, 1); "
                + "lay(true, 1, 0); lay(true, 2, 2); lay(true, 3, 3)\n";
        script.sentence("49", "NONE: there is none", stuck + """
                plan(0) = NONE; plan(1) = NONE; check() = 0; move(0, 0) = NONE; proof(0) = NONE; spoil(0, 1) = NONE
                """);
        script.sentence("49", "NONE: .. (as if plan() never was)", stuck + """
                room(3, 2); plan(0) = 3; room(3, 1); plan(0) = NONE; move(0, 0) = NONE; proof(0) = NONE; check() = 0
                room(3, 2); check() = 0
                plan(1) = 3; check() = 1; room(3, 1); plan(1) = NONE; move(0, 0) = NONE; check() = 0; plan(0) = NONE
                room(3, 2); plan(0) = 3
                """);
        script.sentence("49", "NONE: there is none (found behind some MOVES)", """
                room(0, 3); room(1, 1); room(2, 1); room(3, 1); 3 x lay(false, 0, i); lay(false, 3, 9); lay(true, 0, 2)
                lay(true, 0, 1); lay(true, 0, 0); lay(true, 3, 9); plan(1) = NONE; move(0, 0) = NONE; check() = 0
                """);
        script.sentence("Terms 4", "Where no STACK has ROOM .. there is no PLAN (but LEAST has one)", """
                room(0, 1); room(1, 2); room(2, 1); room(3, 1); lay(false, 0, 9); lay(false, 1, 1); lay(false, 2, 3)
                lay(false, 3, 4)
                lay(true, 0, 1); lay(true, 1, 9); lay(true, 2, 3); lay(true, 3, 4); plan(1) = NONE; plan(0) = NONE
                anew; room(0, 2); room(1, 2); room(2, 1); room(3, 1); 2 x lay(false, 1, i); lay(false, 2, 3)
                lay(false, 3, 4)
                lay(true, 0, 0); lay(true, 1, 1); lay(true, 2, 3); lay(true, 3, 4); plan(1) = NONE; plan(0) = 2
                """);
    }

    private static void planBad() {
        script.each("49", "BAD: way", """
                lay(false, 0, 1); lay(true, 1, 1); plan(0) = 1; plan(W) = BAD; move(0, 1) = 1; check() = 1
                """, "W", "MIN", "-1", "2", "MAX");
        script.sentence("49", "BAD: .. START and GOAL have not the same WAGONS", """
                lay(false, 0, 1); plan(0) = BAD; plan(1) = BAD; lay(true, 0, 2); plan(0) = BAD; plan(1) = BAD
                lay(true, 0, 1); plan(0) = BAD
                lay(false, 0, 2); plan(0) = 3; wipe(); lay(true, 0, 1); plan(0) = BAD; plan(1) = BAD
                """);
        script.sentence("49", "BAD: .. LEAST: more than 5", """
                6 x lay(false, i%4, i); 6 x lay(true, i%4, i); plan(0) = BAD; plan(1) = 0; plan(0) = BAD; check() = 1
                """);
        script.sentence("49", "BAD (THE PLAN stays)", """
                lay(false, 0, 1); lay(true, 1, 1); plan(0) = 1; lay(false, 2, 2); plan(0) = BAD; plan(1) = BAD
                move(0, 1) = 1; proof(0) = 1
                check() = 0
                """);
    }

    private static void move() {
        String plan = "lay(false, 0, 1); lay(false, 0, 2); lay(true, 3, 1); lay(true, 3, 2); plan(0) = 1\n";
        script.each("50", "BAD: k is below 0", plan + "move(K, 0) = BAD; move(K, 9) = BAD", "K", "MIN", "-1");
        script.each("50", "BAD: .. what", plan + "move(0, W) = BAD; move(9, W) = BAD", "W", "MIN", "-1", "3", "MAX");
        script.sentence("50", "from (what = 0), to (1), n (2); NONE", plan + """
                move(0, 0) = 0; move(0, 1) = 3; move(0, 2) = 2; move(1, 0) = NONE; move(1, 1) = NONE; move(1, 2) = NONE
                move(MAX, 0) = NONE
                """);
    }

    private static void bound() {
        script.sentence("51", "BAD: START and GOAL have not the same WAGONS", """
                bound() = 0; lay(false, 0, 1); bound() = BAD; lay(true, 0, 2); bound() = BAD; lay(true, 0, 1)
                lay(false, 0, 2); bound() = 2
                """);
        script.sentence("51", "(a WAGON, or the ground of a STACK)", """
                lay(false, 0, 0); lay(false, 0, 1); lay(true, 1, 0); lay(true, 1, 1); bound() = 1; wipe()
                lay(false, 0, 0); lay(false, 1, 1); lay(true, 0, 0); lay(true, 0, 1); bound() = 1; wipe()
                lay(false, 0, 0); lay(false, 1, 1); lay(true, 1, 0); lay(true, 0, 1); bound() = 2; wipe()
                3 x lay(false, 2, i); 3 x lay(true, 2, i); bound() = 0; wipe()
                lay(false, 1, 0); lay(false, 0, 9); lay(true, 0, 9); lay(true, 0, 0); bound() = 1; wipe()
                lay(false, 3, 0); lay(false, 0, 7); lay(true, 0, 7); lay(true, 0, 0); bound() = 1
                """);
        script.sentence("51", "BOUND (all ten)", ROOMY + """
                10 x lay(false, 0, i); 10 x lay(true, 3, i); bound() = 1; wipe(); 10 x lay(false, 0, i); lay(true, 0, 9)
                9 x lay(true, 0, i); bound() = 2
                """);
    }

    private static void proof() {
        String plan = "2 x lay(false, 0, i); lay(true, 0, 1); lay(true, 0, 0); plan(0) = 3\n";
        script.each("52", "BAD: k is below 0", plan + "proof(K) = BAD; anew; proof(K) = BAD", "K", "MIN", "-1");
        script.sentence("52", "The POTENTIAL of START behind the first k MOVES", plan + """
                proof(0) = 3; proof(1) = 2; proof(2) = 1; proof(3) = 0
                """);
        script.sentence("52", "NONE: there are not so many", plan + """
                proof(4) = NONE; proof(128) = NONE; proof(129) = NONE; proof(MAX) = NONE
                """);
        script.sentence("52", "NONE: .. or it was made BY RULE", plan + """
                plan(1) = 4; proof(0) = NONE; proof(4) = NONE
                """);
        script.sentence("52", "NONE: (there is no PLAN)", "proof(0) = NONE");
        script.sentence("52", "(or as spoil() told it)", plan + """
                spoil(2, 77) = 1; proof(2) = 77; proof(1) = 2; plan(0) = 3; proof(2) = 1
                """);
    }

    private static void spoil() {
        String plan = "2 x lay(false, 0, i); lay(true, 0, 1); lay(true, 0, 0); plan(0) = 3\n";
        script.each("53", "BAD: v is not 0 .. 99", plan + """
                spoil(0, V) = BAD; spoil(9, V) = BAD; proof(0) = 3; check() = 1
                """, "V", "MIN", "-4", "-1", "100", "MAX");
        script.each("53", "as proof() (BAD: k is below 0)", plan + "spoil(K, 0) = BAD", "K", "MIN", "-1");
        script.sentence("53", "That POTENTIAL becomes v: what it was", plan + """
                spoil(0, 99) = 3; spoil(0, 0) = 99; spoil(0, 3) = 0; check() = 1; spoil(3, 99) = 0; proof(3) = 99
                """);
        script.sentence("53", "NONE: as proof()", plan + """
                spoil(4, 0) = NONE; spoil(MAX, 0) = NONE; check() = 1; plan(1) = 4; spoil(0, 0) = NONE; check() = 1
                anew; spoil(0, 0) = NONE
                """);
    }

    private static void checkOfLeast() {
        String plan = "2 x lay(false, 0, i); lay(true, 0, 1); lay(true, 0, 0); plan(0) = 3\n";
        script.sentence("54", "comes to GOAL ..: 1", plan + "check() = 1; check() = 1");
        script.each("54", "that of GOAL is 0", plan + """
                spoil(3, V) = 0; check() = 0; spoil(3, 0) = V; check() = 1
                """, "V", "1", "99");
        script.each("54", "that of START how many MOVES it has", plan + """
                spoil(0, V) = 3; check() = 0; spoil(0, 3) = V; check() = 1
                """, "V", "0", "2", "4", "99");
        script.each("54", "or one lower by more than 1", plan + """
                spoil(1, V) = 2; check() = 0; spoil(1, 2) = V; check() = 1; spoil(2, V) = 1; check() = 0
                """, "V", "0", "3", "4", "99");
        script.sentence("54", "or one lower by more than 1 (from where all stand on the last STACK)", """
                room(1, 1); room(2, 1); 2 x lay(false, 0, i); lay(true, 0, 1); lay(true, 0, 0); plan(0) = 3; move(0, 1) = 3
                move(1, 1) = 3; check() = 1; spoil(2, 2) = 1; check() = 0; spoil(2, 0) = 2; check() = 0; spoil(2, 1) = 0
                check() = 1
                """);
        script.sentence("54", "leads to one that has none (ROOM grew)", """
                room(3, 1); 2 x lay(false, 0, i); lay(true, 0, 1); lay(true, 0, 0); plan(0) = 3; check() = 1; room(3, 2)
                check() = 0; room(3, 1)
                check() = 1; room(3, 2); plan(0) = 3; check() = 1
                """);
        script.sentence("54", "(each MOVE may be done)", plan + """
                room(1, 1); check() = 0; room(1, 2); check() = 1; room(2, 1); check() = 1; room(3, 1); check() = 1
                """);
        script.sentence("54", "(START, GOAL .. as they are now)", plan + """
                lay(false, 3, 9); check() = 0; lay(true, 3, 9); check() = 0; plan(0) = 3; check() = 1
                """);
        script.sentence("54", "(START, GOAL .. as they are now): another one of the same WAGONS", """
                lay(false, 0, 0); lay(true, 1, 0); plan(0) = 1; check() = 1; lay(false, 2, 5); check() = 0
                lay(true, 2, 5); check() = 0
                """);
        script.sentence("54", "(the PLAN is empty)", """
                plan(0) = 0; check() = 1; spoil(0, 1) = 0; check() = 0; spoil(0, 0) = 1; check() = 1
                """);
    }

    private static void checkOfRule() {
        String plan = "2 x lay(false, 0, i); lay(true, 0, 1); lay(true, 0, 0); plan(1) = 4\n";
        script.sentence("54", "if it was made by LEAST (BY RULE none is needed)", plan + """
                check() = 1; room(3, 9); check() = 1; lay(false, 3, 9); check() = 0; lay(true, 3, 9); check() = 1
                """);
        script.sentence("54", "(each MOVE may be done) BY RULE", plan + """
                room(1, 1); check() = 1; lay(false, 1, 7); check() = 0; lay(true, 1, 7); check() = 0; room(1, 2)
                check() = 1
                """);
        script.sentence("54", "worked from START, comes to GOAL (the lowest stand otherwise)", """
                plan(1) = 0; lay(false, 0, 0); lay(false, 1, 1); lay(true, 0, 1); lay(true, 1, 0); check() = 0; wipe()
                plan(1) = 0; lay(false, 3, 0); lay(true, 2, 0); check() = 0
                """);
        script.sentence("54", "worked from START, comes to GOAL", plan + """
                lay(false, 0, 9); lay(true, 0, 9); check() = 0
                """);
    }

    private static void checkWithoutPlan() {
        script.sentence("54", "0 also if there is no PLAN: ahead of any plan()", """
                check() = 0; lay(false, 0, 1); lay(true, 0, 1); check() = 0
                """);
        script.sentence("54", "0 also ..: behind one that told NONE", """
                4 x room(i, 1); 4 x lay(false, i, i); lay(true, 0, 1); lay(true, 1, 0); lay(true, 2, 2); lay(true, 3, 3)
                plan(0) = NONE; check() = 0
                plan(1) = NONE; check() = 0
                """);
        script.sentence("54", "0 also ..: behind wipe()", """
                plan(0) = 0; check() = 1; wipe(); check() = 0; plan(1) = 0; check() = 1; wipe(); check() = 0
                """);
    }
}
