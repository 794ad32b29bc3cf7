/** Promises 46 to 54: plans. */
final class PlansTest {
    private static final int BAD = SwitchYard.BAD, NONE = SwitchYard.NONE;
    private static final Due due = new Due();

    public static void main(String[] args) {
        room();
        lay();
        wipe();
        planByLeast();
        planByRule();
        planNone();
        planNoneInTheMiddle();
        planBad();
        bound();
        proofAndSpoil();
        checkOfLeast();
        checkOfRule();
        nothingOfTheseIsState();
        due.end();
    }

    /** Lays rows of WAGONS, a text for each STACK, from below. */
    private static void rows(SwitchYard yard, boolean goal, String... stacks) {
        for (int stack = 0; stack < stacks.length; stack++) {
            for (int i = 0; i < stacks[stack].length(); i++) {
                int wagon = stacks[stack].charAt(i) - '0';
                due.is("lay(" + goal + ", " + stack + ", " + wagon + ")", yard.lay(goal, stack, wagon), i + 1);
            }
        }
    }

    /** The whole PLAN, a text "from to n" for each MOVE. */
    private static void moves(SwitchYard yard, String... texts) {
        for (int k = 0; k < texts.length; k++) {
            for (int what = 0; what < 3; what++) {
                due.is("move(" + k + ", " + what + ")", yard.move(k, what), texts[k].charAt(what) - '0');
            }
        }
        for (int what = 0; what < 3; what++) {
            due.is("move(" + texts.length + ", " + what + ")", yard.move(texts.length, what), NONE);
        }
    }

    private static void room() {
        due.of("46 room");
        SwitchYard yard = new SwitchYard();
        for (int stack = 0; stack < 4; stack++) {
            due.is("room(s, 10)", yard.room(stack, 10), 5);
            due.is("room(s, 1)", yard.room(stack, 1), 10);
            due.is("room(s, 5)", yard.room(stack, 5), 1);
        }
        due.is("room(-1, 5)", yard.room(-1, 5), BAD);
        due.is("room(4, 5)", yard.room(4, 5), BAD);
        due.is("room(0, 0)", yard.room(0, 0), BAD);
        due.is("room(0, 11)", yard.room(0, 11), BAD);
        rows(yard, false, "", "12");
        rows(yard, true, "", "", "345");
        due.is("room(1, 1), START has more", yard.room(1, 1), BAD);
        due.is("room(1, 2)", yard.room(1, 2), 5);
        due.is("room(2, 2), GOAL has more", yard.room(2, 2), BAD);
        due.is("room(2, 3)", yard.room(2, 3), 5);
        due.is("room(1, 5) behind BAD", yard.room(1, 5), 2);
    }

    private static void lay() {
        due.of("47 lay");
        SwitchYard yard = new SwitchYard();
        due.is("lay(false, 0, 9)", yard.lay(false, 0, 9), 1);
        due.is("lay(false, 0, 9) again", yard.lay(false, 0, 9), BAD);
        due.is("lay(false, 1, 9) elsewhere", yard.lay(false, 1, 9), BAD);
        due.is("lay(true, 1, 9)", yard.lay(true, 1, 9), 1);
        due.is("lay(true, 1, 0)", yard.lay(true, 1, 0), 2);
        due.is("lay(false, -1, 1)", yard.lay(false, -1, 1), BAD);
        due.is("lay(false, 4, 1)", yard.lay(false, 4, 1), BAD);
        due.is("lay(true, 0, -1)", yard.lay(true, 0, -1), BAD);
        due.is("lay(true, 0, 10)", yard.lay(true, 0, 10), BAD);
        due.is("room(3, 2)", yard.room(3, 2), 5);
        due.is("lay(false, 3, 1)", yard.lay(false, 3, 1), 1);
        due.is("lay(false, 3, 2)", yard.lay(false, 3, 2), 2);
        due.is("lay(false, 3, 3) without ROOM", yard.lay(false, 3, 3), BAD);
        due.is("lay(true, 3, 3)", yard.lay(true, 3, 3), 1);
        SwitchYard high = new SwitchYard();
        due.is("room(2, 10)", high.room(2, 10), 5);
        rows(high, true, "", "", "0123456789");
    }

    private static void wipe() {
        due.of("48 wipe");
        SwitchYard yard = new SwitchYard();
        due.is("wipe() of nothing", yard.wipe(), 0);
        yard.room(3, 2);
        rows(yard, false, "12", "3");
        rows(yard, true, "", "", "12", "3");
        due.is("plan(1)", yard.plan(1), 4);
        due.is("wipe()", yard.wipe(), 3);
        due.is("wipe() again", yard.wipe(), 0);
        due.is("check()", yard.check(), 0);
        moves(yard);
        due.is("proof(0)", yard.proof(0), NONE);
        due.is("bound()", yard.bound(), 0);
        due.is("ROOM stays", yard.room(3, 2), 2);
        rows(yard, true, "12", "3");
        due.is("wipe() counts START", yard.wipe(), 0);
    }

    private static void planByLeast() {
        due.of("49 plan by LEAST");
        SwitchYard yard = new SwitchYard();
        rows(yard, false, "", "", "", "1");
        rows(yard, true, "1");
        due.is("plan(0) of one", yard.plan(0), 1);
        moves(yard, "301");
        yard.wipe();
        rows(yard, false, "12");
        rows(yard, true, "", "12");
        due.is("plan(0), two at once", yard.plan(0), 1);
        moves(yard, "012");
        yard.wipe();
        rows(yard, false, "12");
        rows(yard, true, "21");
        due.is("plan(0), one by one and back at once", yard.plan(0), 3);
        moves(yard, "011", "011", "102");
        yard.wipe();
        rows(yard, false, "78", "", "9", "0");
        rows(yard, true, "0", "8", "7", "9");
        due.is("plan(0)", yard.plan(0), 5);
        moves(yard, "011", "011", "301", "231", "121");
        yard.wipe();
        rows(yard, false, "12345");
        rows(yard, true, "54321");
        due.is("plan(0), all turned over", yard.plan(0), 6);
        due.is("check()", yard.check(), 1);
        SwitchYard tight = new SwitchYard();
        for (int stack = 0; stack < 4; stack++) {
            tight.room(stack, stack == 0 ? 3 : 1);
        }
        rows(tight, false, "12", "3", "4", "5");
        rows(tight, true, "21", "3", "4", "5");
        due.is("plan(0), one ROOM left", tight.plan(0), NONE);
        tight.room(1, 2);
        due.is("plan(0), STACK 0 is never empty", tight.plan(0), NONE);
        tight.room(2, 2);
        due.is("plan(0), it may be", tight.plan(0), 4);
        moves(tight, "011", "021", "101", "201");
        due.is("check()", tight.check(), 1);
    }

    private static void planByRule() {
        due.of("49 plan BY RULE");
        SwitchYard yard = new SwitchYard();
        rows(yard, false, "12");
        rows(yard, true, "", "12");
        due.is("plan(1)", yard.plan(1), 3);
        moves(yard, "021", "011", "211");
        due.is("room(3, 6)", yard.room(3, 6), 5);
        due.is("plan(1), more ROOM on 3", yard.plan(1), 3);
        moves(yard, "031", "011", "311");
        yard.wipe();
        yard.room(3, 5);
        rows(yard, false, "1", "2");
        rows(yard, true, "2", "1");
        due.is("plan(1), s is cleared", yard.plan(1), 3);
        moves(yard, "021", "101", "211");
        yard.wipe();
        rows(yard, false, "12", "3");
        rows(yard, true, "12", "3");
        due.is("plan(1), all stand there", yard.plan(1), 0);
        due.is("check()", yard.check(), 1);
        yard.wipe();
        rows(yard, false, "", "312");
        rows(yard, true, "1", "32");
        due.is("plan(1)", yard.plan(1), 3);
        moves(yard, "121", "101", "211");
        yard.wipe();
        rows(yard, false, "", "1", "2");
        rows(yard, true, "", "2", "1");
        due.is("plan(1), to STACK 0 and back", yard.plan(1), 3);
        moves(yard, "101", "211", "021");
        yard.wipe();
        yard.room(0, 10);
        yard.room(1, 10);
        rows(yard, false, "0123456789");
        rows(yard, true, "", "9876543210");
        due.is("plan(1) of ten", yard.plan(1), 10);
        due.is("check()", yard.check(), 1);
        due.is("plan(0) of ten", yard.plan(0), BAD);
        due.is("move(9, 1)", yard.move(9, 1), 1);
    }

    private static void planNone() {
        due.of("49 plan, NONE");
        SwitchYard yard = new SwitchYard();
        for (int stack = 0; stack < 4; stack++) {
            yard.room(stack, 1);
        }
        rows(yard, false, "1", "2", "3", "4");
        rows(yard, true, "2", "1", "3", "4");
        due.is("plan(0)", yard.plan(0), NONE);
        due.is("plan(1)", yard.plan(1), NONE);
        due.is("check()", yard.check(), 0);
        moves(yard);
        yard.room(3, 2);
        due.is("plan(0) with ROOM", yard.plan(0), 3);
        due.is("room(3, 1)", yard.room(3, 1), 2);
        due.is("plan(1) without ROOM", yard.plan(1), NONE);
        moves(yard);
        yard.room(3, 2);
        due.is("plan(1) with ROOM", yard.plan(1), 3);
        due.is("room(3, 1)", yard.room(3, 1), 2);
        due.is("plan(0) without ROOM", yard.plan(0), NONE);
        moves(yard);
        due.is("proof(0) behind NONE", yard.proof(0), NONE);
        due.is("spoil(0, 1) behind NONE", yard.spoil(0, 1), NONE);
        due.is("check() behind NONE", yard.check(), 0);
    }

    private static void planNoneInTheMiddle() {
        due.of("49 plan BY RULE, NONE in the middle");
        SwitchYard yard = new SwitchYard();
        int[] rooms = {2, 1, 1, 1};
        for (int stack = 0; stack < 4; stack++) {
            yard.room(stack, rooms[stack]);
        }
        rows(yard, false, "12", "", "3", "4");
        rows(yard, true, "21", "", "3", "4");
        due.is("plan(1), s can't be cleared", yard.plan(1), NONE);
        moves(yard);
        due.is("check()", yard.check(), 0);
        yard.wipe();
        yard.room(1, 2);
        rows(yard, false, "", "12", "3", "4");
        rows(yard, true, "1", "2", "3", "4");
        due.is("plan(1), neither s nor t may be used", yard.plan(1), NONE);
        moves(yard);
        due.is("plan(0), both go at once", yard.plan(0), 2);
        moves(yard, "102", "011");
        yard.room(2, 2);
        due.is("plan(1)", yard.plan(1), 3);
        moves(yard, "121", "101", "211");
    }

    private static void planBad() {
        due.of("49 plan, BAD");
        SwitchYard yard = new SwitchYard();
        due.is("plan(0) of nothing", yard.plan(0), 0);
        due.is("plan(-1)", yard.plan(-1), BAD);
        due.is("plan(2)", yard.plan(2), BAD);
        due.is("check() behind BAD", yard.check(), 1);
        rows(yard, false, "12");
        rows(yard, true, "13");
        due.is("plan(0), other WAGONS", yard.plan(0), BAD);
        due.is("plan(1), other WAGONS", yard.plan(1), BAD);
        yard.wipe();
        rows(yard, false, "12345");
        rows(yard, true, "", "12345");
        due.is("plan(0) of five", yard.plan(0), 1);
        rows(yard, false, "", "", "6");
        rows(yard, true, "", "", "", "6");
        due.is("plan(0) of six", yard.plan(0), BAD);
        moves(yard, "015");
        due.of("50 move");
        due.is("move(-1, 0)", yard.move(-1, 0), BAD);
        due.is("move(0, -1)", yard.move(0, -1), BAD);
        due.is("move(0, 3)", yard.move(0, 3), BAD);
        due.is("move(7, 3)", yard.move(7, 3), BAD);
        due.is("move(2147483647, 0)", yard.move(Integer.MAX_VALUE, 0), NONE);
    }

    private static void bound() {
        due.of("51 bound");
        SwitchYard yard = new SwitchYard();
        due.is("bound() of nothing", yard.bound(), 0);
        rows(yard, false, "0", "1");
        rows(yard, true, "10");
        due.is("bound(), 0 stands on 1, 1 on another ground", yard.bound(), 2);
        yard.wipe();
        rows(yard, false, "123", "4");
        due.is("bound(), GOAL is empty", yard.bound(), BAD);
        rows(yard, true, "143");
        due.is("bound(), a WAGON is not there", yard.bound(), BAD);
        rows(yard, true, "", "2");
        due.is("bound()", yard.bound(), 3);
        yard.wipe();
        rows(yard, false, "12");
        rows(yard, true, "", "12");
        due.is("bound(), another ground", yard.bound(), 1);
        yard.wipe();
        rows(yard, false, "12", "3");
        rows(yard, true, "12", "3");
        due.is("bound() of the same", yard.bound(), 0);
    }

    private static void proofAndSpoil() {
        due.of("52 proof");
        SwitchYard yard = new SwitchYard();
        due.is("proof(0) without a PLAN", yard.proof(0), NONE);
        rows(yard, false, "12");
        rows(yard, true, "21");
        yard.plan(0);
        for (int k = 0; k <= 3; k++) {
            due.is("proof(" + k + ")", yard.proof(k), 3 - k);
        }
        due.is("proof(4)", yard.proof(4), NONE);
        due.is("proof(-1)", yard.proof(-1), BAD);
        due.is("proof(2147483647)", yard.proof(Integer.MAX_VALUE), NONE);
        due.of("53 spoil");
        due.is("spoil(1, 99)", yard.spoil(1, 99), 2);
        due.is("spoil(1, 0)", yard.spoil(1, 0), 99);
        due.is("proof(1)", yard.proof(1), 0);
        due.is("spoil(1, 100)", yard.spoil(1, 100), BAD);
        due.is("spoil(1, -1)", yard.spoil(1, -1), BAD);
        due.is("spoil(-1, 1)", yard.spoil(-1, 1), BAD);
        due.is("spoil(4, 1)", yard.spoil(4, 1), NONE);
        due.is("spoil(4, 100)", yard.spoil(4, 100), BAD);
        due.is("spoil(3, 7), GOAL's", yard.spoil(3, 7), 0);
        due.is("plan(0) again", yard.plan(0), 3);
        due.is("proof(1) is found anew", yard.proof(1), 2);
        due.is("plan(1)", yard.plan(1), 4);
        due.is("proof(0) BY RULE", yard.proof(0), NONE);
        due.is("spoil(0, 1) BY RULE", yard.spoil(0, 1), NONE);
    }

    private static void checkOfLeast() {
        due.of("54 check of LEAST");
        SwitchYard yard = new SwitchYard();
        due.is("check() ahead of plan()", yard.check(), 0);
        rows(yard, false, "12");
        rows(yard, true, "21");
        yard.plan(0);
        due.is("check()", yard.check(), 1);
        for (int k = 0; k <= 3; k++) {
            for (int v = 0; v < 6; v++) {
                int was = yard.spoil(k, v);
                due.is("check(), potential " + k + " is " + v, yard.check(), v == 3 - k ? 1 : 0);
                yard.spoil(k, was);
            }
        }
        due.is("check(), nothing is spoiled", yard.check(), 1);
        due.is("room(1, 1)", yard.room(1, 1), 5);
        due.is("check(), a MOVE has no ROOM", yard.check(), 0);
        due.is("room(1, 10)", yard.room(1, 10), 1);
        due.is("check(), more ROOM than needed", yard.check(), 1);
        due.is("room(3, 1)", yard.room(3, 1), 5);
        due.is("check(), fewer MOVES", yard.check(), 1);
        due.is("plan(0)", yard.plan(0), 3);
        due.is("check()", yard.check(), 1);
        due.is("room(3, 2)", yard.room(3, 2), 1);
        due.is("check(), a MOVE leads to none", yard.check(), 0);
        due.is("room(3, 1)", yard.room(3, 1), 2);
        due.is("check()", yard.check(), 1);
        rows(yard, false, "", "", "", "9");
        due.is("check(), START is another one", yard.check(), 0);
        rows(yard, true, "", "", "", "9");
        due.is("check(), START has no POTENTIAL", yard.check(), 0);
        due.is("proof(0), as LEAST found it", yard.proof(0), 3);
    }

    private static void checkOfRule() {
        due.of("54 check of RULE");
        SwitchYard yard = new SwitchYard();
        rows(yard, false, "12");
        rows(yard, true, "21");
        due.is("plan(1)", yard.plan(1), 4);
        due.is("check()", yard.check(), 1);
        due.is("room(2, 1)", yard.room(2, 1), 5);
        due.is("check(), each goes elsewhere", yard.check(), 1);
        rows(yard, false, "", "", "", "9");
        due.is("check(), GOAL is missed", yard.check(), 0);
        rows(yard, true, "", "", "", "9");
        due.is("check(), 9 stands still", yard.check(), 1);
        rows(yard, false, "", "", "8");
        rows(yard, true, "", "", "8");
        due.is("check(), a MOVE has no ROOM", yard.check(), 0);
        for (int stack : new int[] {0, 3}) {
            SwitchYard other = new SwitchYard();
            rows(other, false, "", "1");
            rows(other, true, "", "", "1");
            due.is("plan(1)", other.plan(1), 1);
            due.is("check()", other.check(), 1);
            for (int i = 0; i < 3; i++) {
                other.lay(false, stack, 7 + i);
                other.lay(true, stack, i == 0 ? 7 : 10 - i);
            }
            due.is("check(), 8 and 9 stand otherwise", other.check(), 0);
        }
    }

    private static void nothingOfTheseIsState() {
        due.of("46 to 54 are no STATE");
        SwitchYard yard = new SwitchYard();
        yard.track(3);
        yard.wagon(0, 0, 0, 4, 20);
        due.is("hold(0, 5)", yard.hold(0, 5), NONE);
        due.found("at(0, 7)", yard, yard.at(0, 7), 3);
        rows(yard, false, "1");
        rows(yard, true, "", "1");
        due.is("plan(0)", yard.plan(0), 1);
        due.is("spoil(0, 3)", yard.spoil(0, 3), 1);
        due.is("finding(0)", yard.finding(0), 3);
        due.is("undo()", yard.undo(), 1);
        due.is("proof(0)", yard.proof(0), 3);
        due.is("move(0, 1)", yard.move(0, 1), 1);
        due.is("room(0, 4)", yard.room(0, 4), 5);
        due.is("wipe()", yard.wipe(), 1);
        due.is("back()", yard.back(), 1);
        due.is("thing(0, 7)", yard.thing(0, 7), 5);
    }
}
