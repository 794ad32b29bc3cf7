import java.util.Random;

/** Runs of calls, drawn from fixed seeds, on a SwitchYard and a Model: every answer must be the same. */
final class ModelTest {
    private static final int RUNS = 2000, CALLS = 512;

    private static final String[] NAMES = {"track", "point", "link", "exit", "wagon", "engine", "bar", "table", "route",
        "via", "load", "piece", "danger", "hold", "jam", "raise", "turn", "lock", "free", "couple", "part", "pull",
        "kick", "step", "test", "leave", "roll", "store", "rolled", "at", "thing", "pointed", "ask", "meet", "weigh",
        "share", "consist", "finding", "count", "trace", "undo", "back", "digest", "log", "room", "lay", "wipe",
        "plan", "move", "bound", "proof", "spoil", "check"};

    /** How often each call is drawn: while a yard is laid, while it works, while plans are made. */
    private static final int[][] WEIGHTS = {
        {5, 4, 9, 2, 14, 6, 1, 3, 2, 6, 3, 4, 2, 1, 1, 1, 1, 1, 1, 4, 1, 1, 1, 1, 1, 1, 1, 1, 1, 1, 1, 1, 1, 1, 1, 1,
            1, 3, 2, 2, 1, 1, 2, 1, 0, 0, 0, 0, 0, 0, 0, 0, 0},
        {0, 0, 0, 0, 1, 1, 0, 0, 0, 1, 2, 3, 5, 5, 5, 2, 12, 8, 5, 30, 9, 24, 14, 16, 12, 7, 3, 3, 2, 3, 12, 5, 9, 6, 4,
            4, 5, 18, 9, 9, 12, 9, 16, 5, 0, 0, 0, 0, 0, 0, 0, 0, 0},
        {0, 0, 0, 0, 0, 0, 0, 0, 0, 0, 0, 0, 0, 0, 0, 0, 0, 0, 0, 0, 0, 0, 0, 0, 0, 0, 0, 0, 0, 0, 0, 0, 0, 0, 0, 0, 0,
            1, 1, 0, 0, 0, 1, 0, 5, 30, 1, 5, 9, 3, 5, 2, 5}};

    private final Random random;
    private final SwitchYard yard = new SwitchYard();
    private final Model model = new Model();
    private final int[] a = new int[5];
    private final int most;
    private int wagons;

    private ModelTest(long seed) {
        random = new Random(seed);
        most = 1 + random.nextInt(seed % 5 == 0 ? 9 : 4);
        wagons = 1 + random.nextInt(seed % 3 == 0 ? 10 : 4);
    }

    public static void main(String[] args) {
        int wrong = 0;
        for (int seed = 0; seed < RUNS && wrong < 5; seed++) {
            wrong += new ModelTest(seed).run(seed) ? 0 : 1;
        }
        System.out.println(wrong == 0 ? RUNS + " runs, all answers are those of the model" : wrong + " runs differ");
        if (wrong != 0) {
            System.exit(1);
        }
    }

    private boolean run(int seed) {
        StringBuilder calls = new StringBuilder();
        int laying = 20 + random.nextInt(120);
        for (int i = 0; i < CALLS; i++) {
            int phase = seed % 4 == 3 ? 2 : i < laying || seed % 50 == 0 ? 0 : 1;
            int op = draw(WEIGHTS[phase]);
            drawArguments(op);
            calls.append(NAMES[op]).append(java.util.Arrays.toString(a)).append('\n');
            long got = ofYard(op);
            long want = ofModel(op);
            if (got != want) {
                System.out.println("seed " + seed + ", call " + i + ": " + NAMES[op] + java.util.Arrays.toString(a)
                        + " answered " + got + ", due is " + want);
                if (System.getProperty("calls") != null) {
                    System.out.println(calls);
                }
                return false;
            }
        }
        return true;
    }

    private int draw(int[] weights) {
        int sum = 0;
        for (int weight : weights) {
            sum += weight;
        }
        int left = random.nextInt(sum);
        int op = 0;
        while (left >= weights[op]) {
            left -= weights[op];
            op++;
        }
        return op;
    }

    /** Mostly 0 .. n - 1, now and then just outside, seldom far away. */
    private int about(int n) {
        int luck = random.nextInt(100);
        if (luck < 94) {
            return random.nextInt(Math.max(n, 1));
        }
        if (luck < 98) {
            return random.nextInt(n + 4) - 2;
        }
        int[] far = {Integer.MIN_VALUE, Integer.MAX_VALUE, -1, 24, 40, 72, 200, 1 << 30};
        return far[random.nextInt(far.length)];
    }

    private int thing() {
        return about(model.count(-1) + (random.nextInt(20) == 0 ? 1 : 0));
    }

    private int track() {
        return about(model.count(0));
    }

    private void set(int... numbers) {
        System.arraycopy(numbers, 0, a, 0, numbers.length);
    }

    private void drawArguments(int op) {
        java.util.Arrays.fill(a, 0);
        switch (NAMES[op]) {
            case "track" -> set(random.nextInt(12) == 0 ? about(25) - 1 : 1 + random.nextInt(2 + most));
            case "point" -> set(track(), about(2));
            case "link" -> set(track(), about(2), track(), about(2));
            case "exit" -> set(track(), about(2), random.nextInt(3));
            case "wagon" -> set(about(5), track(), about(most + 2), random.nextInt(6) == 0 ? about(9) : 2 + about(5),
                    1 + about(random.nextBoolean() ? 100 : 20));
            case "engine" -> set(random.nextInt(2), track(), about(most + 2), about(101));
            case "bar" -> set(about(4), about(4), random.nextInt(3));
            case "table" -> set(about(8), random.nextInt(4) == 0 ? about(100) : 1 + about(8));
            case "via" -> set(about(model.count(-7)), about(model.count(-6)), about(2), about(3));
            case "load" -> set(thing(), about(2), about(21));
            case "piece" -> set(thing(), about(8), about(2), about(121));
            case "danger" -> set(thing(), about(4));
            case "hold" -> set(thing(), random.nextInt(3) == 0 ? SwitchYard.NONE : about(1000));
            case "jam" -> set(thing(), about(random.nextInt(3) == 0 ? 51 : 4));
            case "raise", "test", "leave", "weigh", "share" -> set(thing());
            case "turn" -> set(about(model.count(-6)), about(3));
            case "lock", "free" -> set(about(model.count(-7)));
            case "couple", "part", "kick" -> set(thing(), about(2));
            case "pull" -> set(thing(), about(2), 1 + about(random.nextInt(4) == 0 ? 200 : 4));
            case "step" -> set(1 + about(random.nextInt(4) == 0 ? 50 : 3));
            case "roll" -> set(track(), about(6), about(5));
            case "store" -> set(thing(), about(8));
            case "rolled" -> set(about(8));
            case "at" -> set(track(), about(most + 2));
            case "thing" -> set(thing(), about(11));
            case "pointed" -> set(about(model.count(-6)), about(5));
            case "ask" -> set(thing(), about(8));
            case "meet" -> set(thing(), about(2), about(random.nextInt(4) == 0 ? 101 : 4));
            case "consist" -> set(thing(), about(5));
            case "finding" -> set(about(4));
            case "count" -> set(about(28) - 9);
            case "trace" -> set(random.nextInt(9) == 0 ? about(220) : about(12));
            case "log" -> set(about(random.nextInt(3) == 0 ? 45 : 5), about(2));
            case "room" -> set(about(4), 1 + about(random.nextBoolean() ? 10 : 4));
            case "lay" -> set(random.nextInt(2), about(4), about(wagons));
            case "plan" -> set(about(2));
            case "move" -> set(about(10), about(3));
            case "proof" -> set(about(8));
            case "spoil" -> set(about(6), random.nextInt(9) == 0 ? about(100) : about(6));
            default -> { }
        }
        if (NAMES[op].equals("wipe")) {
            wagons = 1 + random.nextInt(6);
        }
    }

    private long ofYard(int op) {
        SwitchYard y = yard;
        return switch (NAMES[op]) {
            case "track" -> y.track(a[0]);
            case "point" -> y.point(a[0], a[1]);
            case "link" -> y.link(a[0], a[1], a[2], a[3]);
            case "exit" -> y.exit(a[0], a[1], a[2] > 0);
            case "wagon" -> y.wagon(a[0], a[1], a[2], a[3], a[4]);
            case "engine" -> y.engine(a[0] > 0, a[1], a[2], a[3]);
            case "bar" -> y.bar(a[0], a[1], a[2] > 0);
            case "table" -> y.table(a[0], a[1]);
            case "route" -> y.route();
            case "via" -> y.via(a[0], a[1], a[2], a[3]);
            case "load" -> y.load(a[0], a[1], a[2]);
            case "piece" -> y.piece(a[0], a[1], a[2], a[3]);
            case "danger" -> y.danger(a[0], a[1]);
            case "hold" -> y.hold(a[0], a[1]);
            case "jam" -> y.jam(a[0], a[1]);
            case "raise" -> y.raise(a[0]);
            case "turn" -> y.turn(a[0], a[1]);
            case "lock" -> y.lock(a[0]);
            case "free" -> y.free(a[0]);
            case "couple" -> y.couple(a[0], a[1]);
            case "part" -> y.part(a[0], a[1]);
            case "pull" -> y.pull(a[0], a[1], a[2]);
            case "kick" -> y.kick(a[0], a[1]);
            case "step" -> y.step(a[0]);
            case "test" -> y.test(a[0]);
            case "leave" -> y.leave(a[0]);
            case "roll" -> y.roll(a[0], a[1], a[2]);
            case "store" -> y.store(a[0], a[1]);
            case "rolled" -> y.rolled(a[0]);
            case "at" -> y.at(a[0], a[1]);
            case "thing" -> y.thing(a[0], a[1]);
            case "pointed" -> y.pointed(a[0], a[1]);
            case "ask" -> y.ask(a[0], a[1]);
            case "meet" -> y.meet(a[0], a[1], a[2]);
            case "weigh" -> y.weigh(a[0]);
            case "share" -> y.share(a[0]);
            case "consist" -> y.consist(a[0], a[1]);
            case "finding" -> y.finding(a[0]);
            case "count" -> y.count(a[0]);
            case "trace" -> y.trace(a[0]);
            case "undo" -> y.undo();
            case "back" -> y.back();
            case "digest" -> y.digest();
            case "log" -> y.log(a[0], a[1]);
            case "room" -> y.room(a[0], a[1]);
            case "lay" -> y.lay(a[0] > 0, a[1], a[2]);
            case "wipe" -> y.wipe();
            case "plan" -> y.plan(a[0]);
            case "move" -> y.move(a[0], a[1]);
            case "bound" -> y.bound();
            case "proof" -> y.proof(a[0]);
            case "spoil" -> y.spoil(a[0], a[1]);
            default -> y.check();
        };
    }

    private long ofModel(int op) {
        Model m = model;
        return switch (NAMES[op]) {
            case "track" -> m.track(a[0]);
            case "point" -> m.point(a[0], a[1]);
            case "link" -> m.link(a[0], a[1], a[2], a[3]);
            case "exit" -> m.exit(a[0], a[1], a[2] > 0);
            case "wagon" -> m.wagon(a[0], a[1], a[2], a[3], a[4]);
            case "engine" -> m.engine(a[0] > 0, a[1], a[2], a[3]);
            case "bar" -> m.bar(a[0], a[1], a[2] > 0);
            case "table" -> m.table(a[0], a[1]);
            case "route" -> m.route();
            case "via" -> m.via(a[0], a[1], a[2], a[3]);
            case "load" -> m.load(a[0], a[1], a[2]);
            case "piece" -> m.piece(a[0], a[1], a[2], a[3]);
            case "danger" -> m.danger(a[0], a[1]);
            case "hold" -> m.hold(a[0], a[1]);
            case "jam" -> m.jam(a[0], a[1]);
            case "raise" -> m.raise(a[0]);
            case "turn" -> m.turn(a[0], a[1]);
            case "lock" -> m.lock(a[0]);
            case "free" -> m.free(a[0]);
            case "couple" -> m.couple(a[0], a[1]);
            case "part" -> m.part(a[0], a[1]);
            case "pull" -> m.pull(a[0], a[1], a[2]);
            case "kick" -> m.kick(a[0], a[1]);
            case "step" -> m.step(a[0]);
            case "test" -> m.test(a[0]);
            case "leave" -> m.leave(a[0]);
            case "roll" -> m.roll(a[0], a[1], a[2]);
            case "store" -> m.store(a[0], a[1]);
            case "rolled" -> m.rolled(a[0]);
            case "at" -> m.at(a[0], a[1]);
            case "thing" -> m.thing(a[0], a[1]);
            case "pointed" -> m.pointed(a[0], a[1]);
            case "ask" -> m.ask(a[0], a[1]);
            case "meet" -> m.meet(a[0], a[1], a[2]);
            case "weigh" -> m.weigh(a[0]);
            case "share" -> m.share(a[0]);
            case "consist" -> m.consist(a[0], a[1]);
            case "finding" -> m.finding(a[0]);
            case "count" -> m.count(a[0]);
            case "trace" -> m.trace(a[0]);
            case "undo" -> m.undo();
            case "back" -> m.back();
            case "digest" -> m.digest();
            case "log" -> m.log(a[0], a[1]);
            case "room" -> m.room(a[0], a[1]);
            case "lay" -> m.lay(a[0] > 0, a[1], a[2]);
            case "wipe" -> m.wipe();
            case "plan" -> m.plan(a[0]);
            case "move" -> m.move(a[0], a[1]);
            case "bound" -> m.bound();
            case "proof" -> m.proof(a[0]);
            case "spoil" -> m.spoil(a[0], a[1]);
            default -> m.check();
        };
    }
}
