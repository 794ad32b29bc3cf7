import java.util.ArrayDeque;
import java.util.ArrayList;
import java.util.Deque;
import java.util.HashMap;
import java.util.List;
import java.util.Map;
import java.util.TreeMap;
import java.util.function.IntSupplier;

/**
 * The document once more, in the plainest form and built in another way than SwitchYard: objects that know one
 * another, BODIES as methods that are overridden, FINDINGS as exceptions, STATES as copies, POTENTIALS by
 * relaxation. It has no regard to speed or size.
 */
final class Model {
    static final int BAD = -1, FOUND = -2, FULL = -3, NONE = -4;

    private static final int NOTHING = 1, NOT_SUCH = 2, BEYOND = 3, STORE = 4, SIZE = 5, ZERO = 6, NONE_HELD = 7,
            HELD = 8, TAKEN = 9, CLOSED = 10, LOCKED = 11, UNDER = 12, BARRED = 13, COUPLED = 14, WEAK = 15,
            RUNS = 16, UNTESTED = 17;

    private static final class Finding extends RuntimeException {
        private static final long serialVersionUID = 1L;
        final int kind;
        final int told;

        Finding(int kind, int told) {
            super(null, null, false, false);
            this.kind = kind;
            this.told = told;
        }
    }

    private static Finding finds(int kind) {
        return new Finding(kind, NONE);
    }

    // ---- the parts of the yard

    private static final class Link {
        End one;
        End two;

        End other(End end) {
            return end == one ? two : one;
        }
    }

    private static final class End {
        Track track;
        int number;
        Point point;
        boolean leadsOut;
        final List<Link> links = new ArrayList<>();

        int place() {
            return number == 0 ? 0 : track.places - 1;
        }

        Link inUse() {
            int k = point == null ? 0 : point.set;
            return k < links.size() ? links.get(k) : null;
        }
    }

    private static final class Track {
        int number;
        int places;
        final End[] ends = {new End(), new End()};
    }

    private static final class Point {
        End end;
        int set = 0;
        int lockedBy = NONE;
    }

    private static final class Entry {
        int point;
        int link;
        int rank;
    }

    private static final class Spot {
        final Track track;
        final int place;
        final int direction;

        Spot(Track track, int place, int direction) {
            this.track = track;
            this.place = place;
            this.direction = direction;
        }
    }

    // ---- THINGS and their BODIES

    private abstract class Thing {
        int number;
        int kind;
        boolean gone;
        Track track;
        int place;
        int looks = 1;
        final Thing[] mates = new Thing[2];
        int serial;
        int fault = NONE;
        int jam;
        int danger;
        int d;
        int runSide;
        boolean tested;

        abstract int weight();

        abstract int axles();

        abstract int brake();

        int heavy() {
            traced(12);
            return 2 * weight() + axles();
        }

        int perAxle() {
            traced(14);
            int weight = weight();
            if (axles() == 0) {
                throw finds(ZERO);
            }
            return Math.floorDiv(weight, axles());
        }

        boolean suits(Thing other) {
            traced(17);
            if (this instanceof Wagon && other instanceof Wagon) {
                return !bars.contains(Math.min(danger, other.danger) + "/" + Math.max(danger, other.danger));
            }
            return true;
        }

        void raises() {
            if (fault == NONE) {
                throw finds(NONE_HELD);
            }
            throw new Finding(HELD, fault);
        }

        int looksBy(int side) {
            return side == 0 ? looks : 1 - looks;
        }

        void look(int side, int direction) {
            looks = side == 0 ? direction : 1 - direction;
        }

        /** By which SIDE another one is coupled. */
        int sideOf(Thing mate) {
            return mates[0] == mate ? 0 : 1;
        }
    }

    private abstract class Wagon extends Thing {
        int toldAxles;
        int tare;
        Object load;

        @Override
        int axles() {
            return toldAxles;
        }

        int pieces() {
            if (load instanceof int[] ints) {
                return ints.length;
            }
            return load instanceof byte[] bytes ? bytes.length : 0;
        }

        int loaded() {
            int sum = 0;
            for (int i = 0; i < pieces(); i++) {
                sum += load instanceof int[] ints ? ints[i] : ((byte[]) load)[i];
            }
            return sum;
        }
    }

    private class Flat extends Wagon {
        @Override
        int weight() {
            traced(1);
            return tare + loaded();
        }

        @Override
        int brake() {
            traced(6);
            return 4 * axles();
        }
    }

    private class Tank extends Flat {
        @Override
        int weight() {
            traced(2);
            return super.weight() + pieces();
        }
    }

    private final class Cold extends Tank {
        @Override
        int weight() {
            traced(3);
            return super.weight() + 5;
        }

        @Override
        int brake() {
            traced(7);
            return super.brake() + 2;
        }
    }

    private final class Long extends Flat {
        @Override
        int brake() {
            traced(8);
            return 3 * axles();
        }

        @Override
        int heavy() {
            traced(13);
            return super.heavy() + 10;
        }
    }

    private final class Empty extends Wagon {
        @Override
        int weight() {
            traced(4);
            return tare;
        }

        @Override
        int brake() {
            traced(9);
            return axles();
        }

        @Override
        boolean suits(Thing other) {
            traced(19);
            return !(other instanceof Tank) && super.suits(other);
        }
    }

    private class Engine extends Thing {
        int power;

        @Override
        int weight() {
            traced(5);
            return 80 + power;
        }

        @Override
        int axles() {
            return 6;
        }

        @Override
        int brake() {
            traced(10);
            return 30;
        }

        int pulls() {
            traced(15);
            return power;
        }

        @Override
        boolean suits(Thing other) {
            traced(18);
            return true;
        }
    }

    private final class Slug extends Engine {
        @Override
        int axles() {
            return 4;
        }

        @Override
        int brake() {
            traced(11);
            return super.brake() + 5;
        }

        @Override
        int pulls() {
            traced(16);
            for (Thing mate : mates) {
                if (mate instanceof Engine && !(mate instanceof Slug)) {
                    return super.pulls();
                }
            }
            return 0;
        }
    }

    // ---- what a yard has

    private final List<Track> tracks = new ArrayList<>();
    private final List<Point> points = new ArrayList<>();
    private final List<List<Entry>> routes = new ArrayList<>();
    private final List<Thing> things = new ArrayList<>();
    private List<Thing> runners = new ArrayList<>();
    private final List<String> bars = new ArrayList<>();
    private final int[] table = new int[8];
    private final Engine[] row = new Engine[8];
    private int damps = 0;
    private int serials = 0;

    private final List<Integer> trace = new ArrayList<>();
    private final int[] ever = new int[18];
    private int findingKind = 0;
    private int findingFault = NONE;
    private int findingSteps = 0;
    private int findingRoute = NONE;

    private final Deque<Runnable> kept = new ArrayDeque<>();
    private final Deque<Runnable> undone = new ArrayDeque<>();
    private final List<int[]> acts = new ArrayList<>();

    private void traced(int body) {
        if (trace.size() < 200) {
            trace.add(body);
        }
    }

    private int mayBeFound(IntSupplier call) {
        trace.clear();
        findingKind = 0;
        findingFault = NONE;
        findingSteps = 0;
        findingRoute = NONE;
        try {
            return call.getAsInt();
        } catch (Finding finding) {
            findingKind = finding.kind;
            findingFault = finding.kind == HELD ? finding.told : NONE;
            findingRoute = finding.kind == LOCKED ? finding.told : NONE;
            ever[finding.kind]++;
            return FOUND;
        }
    }

    private int act(int number, IntSupplier call) {
        keep();
        int answer = mayBeFound(call);
        acts.add(new int[] {number, answer});
        return answer;
    }

    private void keep() {
        kept.addLast(copy());
        if (kept.size() > 8) {
            kept.removeFirst();
        }
        undone.clear();
    }

    private void forget() {
        kept.clear();
        undone.clear();
    }

    /** The STATE as it is: run, it is given back. */
    private Runnable copy() {
        List<Runnable> all = new ArrayList<>();
        for (Thing t : things) {
            boolean gone = t.gone;
            Track track = t.track;
            int place = t.place;
            int looks = t.looks;
            Thing mate0 = t.mates[0];
            Thing mate1 = t.mates[1];
            int[] numbers = {t.serial, t.fault, t.jam, t.danger, t.d, t.runSide};
            boolean tested = t.tested;
            all.add(() -> {
                t.gone = gone;
                t.track = track;
                t.place = place;
                t.looks = looks;
                t.mates[0] = mate0;
                t.mates[1] = mate1;
                t.serial = numbers[0];
                t.fault = numbers[1];
                t.jam = numbers[2];
                t.danger = numbers[3];
                t.d = numbers[4];
                t.runSide = numbers[5];
                t.tested = tested;
            });
        }
        for (Point p : points) {
            int set = p.set;
            int lockedBy = p.lockedBy;
            all.add(() -> {
                p.set = set;
                p.lockedBy = lockedBy;
            });
        }
        List<Thing> running = new ArrayList<>(runners);
        int damped = damps;
        all.add(() -> {
            runners = new ArrayList<>(running);
            damps = damped;
        });
        return () -> all.forEach(Runnable::run);
    }

    private static boolean in(int number, int least, int most) {
        return least <= number && number <= most;
    }

    private static <T> T named(List<T> made, int number, int most) {
        if (number < 0 || number >= most) {
            throw finds(BEYOND);
        }
        if (number >= made.size()) {
            throw finds(NOTHING);
        }
        return made.get(number);
    }

    private Track trackOf(int number) {
        return named(tracks, number, 24);
    }

    private Point pointOf(int number) {
        return named(points, number, 40);
    }

    private List<Entry> routeOf(int number) {
        return named(routes, number, 12);
    }

    private static void placeOn(Track track, int place) {
        if (!in(place, 0, track.places - 1)) {
            throw finds(BEYOND);
        }
    }

    private <T extends Thing> T thingAs(Class<T> wanted, int number) {
        Thing thing = named(things, number, 72);
        if (!wanted.isInstance(thing)) {
            throw finds(NOT_SUCH);
        }
        if (thing.gone) {
            throw finds(NOTHING);
        }
        return wanted.cast(thing);
    }

    private static void sideIs(int side) {
        if (!in(side, 0, 1)) {
            throw finds(BEYOND);
        }
    }

    private Thing standing(Track track, int place) {
        for (Thing t : things) {
            if (!t.gone && t.track == track && t.place == place) {
                return t;
            }
        }
        return null;
    }

    /** null: CLOSED. */
    private Spot next(Track track, int place, int direction) {
        int on = direction == 1 ? place + 1 : place - 1;
        if (in(on, 0, track.places - 1)) {
            return new Spot(track, on, direction);
        }
        End end = track.ends[direction];
        Link link = end.inUse();
        if (link == null) {
            return null;
        }
        End far = link.other(end);
        if (far.point != null && far.inUse() != link) {
            return null;
        }
        if (far.track == track && far.place() == place) {
            return null;
        }
        return new Spot(far.track, far.place(), far.number == 0 ? 1 : 0);
    }

    private Spot next(Thing thing, int side) {
        return next(thing.track, thing.place, thing.looksBy(side));
    }

    private List<Thing> consistFrom(Thing thing, int side) {
        Thing first = thing;
        int out = side;
        while (first.mates[out] != null) {
            Thing mate = first.mates[out];
            out = 1 - mate.sideOf(first);
            first = mate;
        }
        List<Thing> all = new ArrayList<>();
        Thing now = first;
        int rear = 1 - out;
        while (now != null) {
            all.add(now);
            Thing mate = now.mates[rear];
            if (mate != null) {
                rear = 1 - mate.sideOf(now);
            }
            now = mate;
        }
        return all;
    }

    private List<Thing> order(Thing thing) {
        return consistFrom(thing, 0);
    }

    // ---- making

    int track(int n) {
        if (n == 0 || n > 24) {
            return BAD;
        }
        if (tracks.size() == 24) {
            return FULL;
        }
        return mayBeFound(() -> {
            if (n < 0) {
                throw finds(SIZE);
            }
            Track track = new Track();
            track.number = tracks.size();
            track.places = n;
            for (int e = 0; e < 2; e++) {
                track.ends[e].track = track;
                track.ends[e].number = e;
            }
            tracks.add(track);
            forget();
            return track.number;
        });
    }

    int point(int track, int end) {
        if (!in(end, 0, 1)) {
            return BAD;
        }
        if (points.size() == 40) {
            return FULL;
        }
        return mayBeFound(() -> {
            End where = trackOf(track).ends[end];
            if (where.point != null) {
                throw finds(TAKEN);
            }
            where.point = new Point();
            where.point.end = where;
            points.add(where.point);
            forget();
            return points.size() - 1;
        });
    }

    int link(int track, int end, int other, int otherEnd) {
        if (!in(end, 0, 1) || !in(otherEnd, 0, 1)) {
            return BAD;
        }
        return mayBeFound(() -> {
            Track first = trackOf(track);
            Link link = new Link();
            link.one = first.ends[end];
            link.two = trackOf(other).ends[otherEnd];
            if (link.one == link.two) {
                throw finds(TAKEN);
            }
            for (Link there : link.one.links) {
                if (there.other(link.one) == link.two) {
                    throw finds(TAKEN);
                }
            }
            for (End e : new End[] {link.one, link.two}) {
                if (e.links.size() == (e.point == null ? 1 : 3)) {
                    throw finds(TAKEN);
                }
            }
            link.one.links.add(link);
            link.two.links.add(link);
            forget();
            return 1;
        });
    }

    int exit(int track, int end, boolean is) {
        if (!in(end, 0, 1)) {
            return BAD;
        }
        return mayBeFound(() -> {
            End where = trackOf(track).ends[end];
            boolean was = where.leadsOut;
            where.leadsOut = is;
            forget();
            return was ? 1 : 0;
        });
    }

    private int stand(Thing thing, int kind, int track, int place) {
        return mayBeFound(() -> {
            Track where = trackOf(track);
            placeOn(where, place);
            if (standing(where, place) != null) {
                throw finds(TAKEN);
            }
            thing.number = things.size();
            thing.kind = kind;
            thing.track = where;
            thing.place = place;
            thing.serial = ++serials;
            things.add(thing);
            forget();
            return thing.number;
        });
    }

    int wagon(int kind, int track, int place, int axles, int tare) {
        if (!in(kind, 0, 4) || !in(axles, 0, 8) || !in(tare, 1, 100)) {
            return BAD;
        }
        if (things.size() == 72) {
            return FULL;
        }
        Wagon wagon = kind == 0 ? new Flat() : kind == 1 ? new Tank() : kind == 2 ? new Cold()
                : kind == 3 ? new Long() : new Empty();
        wagon.toldAxles = axles;
        wagon.tare = tare;
        return stand(wagon, kind, track, place);
    }

    int engine(boolean slug, int track, int place, int power) {
        if (!in(power, 0, 100)) {
            return BAD;
        }
        if (things.size() == 72) {
            return FULL;
        }
        Engine engine = slug ? new Slug() : new Engine();
        engine.power = power;
        return stand(engine, slug ? 6 : 5, track, place);
    }

    int bar(int a, int b, boolean is) {
        if (!in(a, 0, 9) || !in(b, 0, 9)) {
            return BAD;
        }
        String pair = Math.min(a, b) + "/" + Math.max(a, b);
        boolean was = bars.remove(pair);
        if (is) {
            bars.add(pair);
        }
        forget();
        return was ? 1 : 0;
    }

    int table(int k, int d) {
        if (!in(k, 0, 7) || !in(d, 0, 99)) {
            return BAD;
        }
        int was = table[k];
        table[k] = d;
        forget();
        return was;
    }

    int route() {
        if (routes.size() == 12) {
            return FULL;
        }
        routes.add(new ArrayList<>());
        forget();
        return routes.size() - 1;
    }

    int via(int route, int point, int link, int rank) {
        if (!in(link, 0, 2) || !in(rank, 0, 99)) {
            return BAD;
        }
        return mayBeFound(() -> {
            List<Entry> entries = routeOf(route);
            pointOf(point);
            if (entries.stream().anyMatch(e -> e.point == point) || entries.size() == 8) {
                throw finds(TAKEN);
            }
            if (points.stream().anyMatch(p -> p.lockedBy == route)) {
                throw new Finding(LOCKED, route);
            }
            Entry entry = new Entry();
            entry.point = point;
            entry.link = link;
            entry.rank = rank;
            entries.add(entry);
            forget();
            return entries.size();
        });
    }

    int load(int thing, int sort, int n) {
        if (!in(sort, 0, 1) || n > 20) {
            return BAD;
        }
        return mayBeFound(() -> {
            Wagon wagon = thingAs(Wagon.class, thing);
            if (n < 0) {
                throw finds(SIZE);
            }
            wagon.load = sort == 0 ? new int[n] : new byte[n];
            return n;
        });
    }

    int piece(int thing, int i, int sort, int v) {
        if (!in(sort, 0, 1) || !in(v, 0, 120)) {
            return BAD;
        }
        return mayBeFound(() -> {
            Wagon wagon = thingAs(Wagon.class, thing);
            if (wagon.load != null && wagon.load instanceof int[] != (sort == 0)) {
                throw finds(NOT_SUCH);
            }
            if (wagon.load == null) {
                throw finds(NOTHING);
            }
            if (!in(i, 0, wagon.pieces() - 1)) {
                throw finds(BEYOND);
            }
            if (wagon.load instanceof int[] ints) {
                ints[i] = v;
            } else {
                ((byte[]) wagon.load)[i] = (byte) v;
            }
            return 1;
        });
    }

    // ---- acts

    int danger(int thing, int c) {
        if (!in(c, 0, 9)) {
            return BAD;
        }
        return act(0, () -> {
            Wagon wagon = thingAs(Wagon.class, thing);
            int was = wagon.danger;
            wagon.danger = c;
            return was;
        });
    }

    int hold(int thing, int n) {
        if (n != NONE && !in(n, 0, 999)) {
            return BAD;
        }
        return act(1, () -> {
            Thing holder = thingAs(Thing.class, thing);
            int was = holder.fault;
            holder.fault = n;
            return was;
        });
    }

    int jam(int thing, int n) {
        if (!in(n, 0, 50)) {
            return BAD;
        }
        return act(2, () -> {
            Thing jammed = thingAs(Thing.class, thing);
            int was = jammed.jam;
            jammed.jam = n;
            return was;
        });
    }

    int raise(int thing) {
        return mayBeFound(() -> {
            thingAs(Thing.class, thing).raises();
            return 0;
        });
    }

    private boolean isUnder(Point point) {
        return standing(point.end.track, point.end.place()) != null;
    }

    int turn(int point, int k) {
        return act(3, () -> {
            Point turned = pointOf(point);
            if (!in(k, 0, turned.end.links.size() - 1)) {
                throw finds(BEYOND);
            }
            int was = turned.set;
            if (was != k) {
                if (turned.lockedBy != NONE) {
                    throw new Finding(LOCKED, turned.lockedBy);
                }
                if (isUnder(turned)) {
                    throw finds(UNDER);
                }
            }
            turned.set = k;
            return was;
        });
    }

    int lock(int route) {
        return act(4, () -> {
            List<Entry> entries = new ArrayList<>(routeOf(route));
            entries.sort((a, b) -> a.rank != b.rank ? a.rank - b.rank : a.point - b.point);
            Runnable before = copy();
            try {
                for (Entry entry : entries) {
                    Point point = points.get(entry.point);
                    if (point.lockedBy != NONE) {
                        throw new Finding(LOCKED, point.lockedBy);
                    }
                    if (entry.link >= point.end.links.size()) {
                        throw finds(BEYOND);
                    }
                    if (point.set != entry.link && isUnder(point)) {
                        throw finds(UNDER);
                    }
                    point.set = entry.link;
                    point.lockedBy = route;
                }
            } catch (Finding finding) {
                before.run();
                throw finding;
            }
            return entries.size();
        });
    }

    int free(int route) {
        return act(5, () -> {
            routeOf(route);
            int sum = 0;
            for (Point point : points) {
                if (point.lockedBy == route) {
                    point.lockedBy = NONE;
                    sum++;
                }
            }
            return sum;
        });
    }

    private void renew(Thing thing) {
        serials++;
        for (Thing t : order(thing)) {
            t.serial = serials;
            t.tested = false;
        }
    }

    int couple(int thing, int side) {
        return act(6, () -> {
            Thing one = thingAs(Thing.class, thing);
            sideIs(side);
            if (one.mates[side] != null) {
                throw finds(COUPLED);
            }
            if (runners.contains(one)) {
                throw finds(RUNS);
            }
            Spot spot = next(one, side);
            if (spot == null) {
                throw finds(CLOSED);
            }
            Thing two = standing(spot.track, spot.place);
            if (two == null) {
                throw finds(NOTHING);
            }
            if (runners.contains(two)) {
                throw finds(RUNS);
            }
            int back = two.looksBy(0) != spot.direction ? 0 : 1;
            if (two.mates[back] != null || order(one).contains(two)) {
                throw finds(COUPLED);
            }
            if (!one.suits(two) || !two.suits(one)) {
                throw finds(BARRED);
            }
            one.mates[side] = two;
            two.mates[back] = one;
            renew(one);
            return two.number;
        });
    }

    int part(int thing, int side) {
        return act(7, () -> {
            Thing one = thingAs(Thing.class, thing);
            sideIs(side);
            Thing two = one.mates[side];
            if (two == null) {
                throw finds(NOTHING);
            }
            two.mates[two.sideOf(one)] = null;
            one.mates[side] = null;
            renew(one);
            renew(two);
            return two.number;
        });
    }

    private void stepOf(List<Thing> all, int outward) {
        Thing lead = all.get(0);
        Spot spot = next(lead, outward);
        if (spot == null) {
            throw finds(CLOSED);
        }
        if (standing(spot.track, spot.place) != null) {
            throw finds(TAKEN);
        }
        Runnable before = copy();
        try {
            for (Thing t : all) {
                if (t.jam > 0) {
                    t.jam--;
                    if (t.jam == 0) {
                        t.raises();
                    }
                }
            }
        } catch (Finding finding) {
            before.run();
            throw finding;
        }
        Spot to = spot;
        int ahead = outward;
        for (int i = 0; i < all.size(); i++) {
            Thing t = all.get(i);
            if (i > 0) {
                ahead = t.sideOf(all.get(i - 1));
            }
            Spot stood = new Spot(t.track, t.place, t.looksBy(ahead));
            t.track = to.track;
            t.place = to.place;
            t.look(ahead, to.direction);
            to = stood;
        }
    }

    int pull(int thing, int side, int n) {
        if (!in(n, 1, 200)) {
            return BAD;
        }
        int[] whole = {0};
        int answer = act(8, () -> {
            Engine engine = thingAs(Engine.class, thing);
            sideIs(side);
            int weight = 0;
            for (Thing t : order(engine)) {
                weight += t.weight();
            }
            int pulls = 0;
            for (Thing t : order(engine)) {
                if (t instanceof Engine e) {
                    pulls += e.pulls();
                }
            }
            if (weight > 20 * pulls) {
                throw finds(WEAK);
            }
            List<Thing> all = consistFrom(engine, side);
            int outward = all.size() == 1 ? side : 1 - all.get(0).sideOf(all.get(1));
            for (int i = 0; i < n; i++) {
                stepOf(all, outward);
                whole[0]++;
            }
            return n;
        });
        findingSteps = whole[0];
        return answer;
    }

    int kick(int thing, int side) {
        return act(9, () -> {
            Wagon wagon = thingAs(Wagon.class, thing);
            sideIs(side);
            if (wagon.mates[0] != null || wagon.mates[1] != null) {
                throw finds(COUPLED);
            }
            if (runners.contains(wagon)) {
                throw finds(RUNS);
            }
            int d = table[Math.min(7, wagon.heavy() / 40)];
            if (d > 0) {
                wagon.d = d;
                wagon.runSide = side;
                runners.add(wagon);
            }
            return d;
        });
    }

    private void stop(Thing wagon) {
        wagon.d = 0;
        runners.remove(wagon);
    }

    private void run(Thing wagon) {
        Spot spot = next(wagon, wagon.runSide);
        if (spot == null) {
            stop(wagon);
            return;
        }
        Thing there = standing(spot.track, spot.place);
        if (there != null && !runners.contains(there)) {
            stop(wagon);
            damps++;
            return;
        }
        if (there == null) {
            wagon.track = spot.track;
            wagon.place = spot.place;
            wagon.look(wagon.runSide, spot.direction);
        }
        wagon.d--;
        if (wagon.d == 0) {
            stop(wagon);
        }
    }

    int step(int n) {
        if (!in(n, 1, 50)) {
            return BAD;
        }
        keep();
        for (int i = 0; i < n; i++) {
            for (Thing wagon : new ArrayList<>(runners)) {
                run(wagon);
            }
        }
        acts.add(new int[] {10, runners.size()});
        return runners.size();
    }

    int test(int thing) {
        return act(11, () -> {
            List<Thing> all = order(thingAs(Thing.class, thing));
            int good = 0;
            for (Thing t : all) {
                int brake = t.brake();
                if (2 * brake >= t.perAxle()) {
                    good++;
                }
            }
            for (Thing t : all) {
                t.tested = good == all.size();
            }
            return good;
        });
    }

    private boolean looksOut(Thing thing, int side) {
        End end = thing.track.ends[thing.looksBy(side)];
        return end.leadsOut && end.place() == thing.place;
    }

    int leave(int thing) {
        return act(12, () -> {
            List<Thing> all = order(thingAs(Engine.class, thing));
            if (all.stream().anyMatch(t -> !t.tested)) {
                throw finds(UNTESTED);
            }
            Thing first = all.get(0);
            Thing last = all.get(all.size() - 1);
            int firstSide = all.size() == 1 ? 0 : first.mates[0] == null ? 0 : 1;
            int lastSide = all.size() == 1 ? 1 : last.mates[0] == null ? 0 : 1;
            if (!looksOut(first, firstSide) && !looksOut(last, lastSide)) {
                throw finds(CLOSED);
            }
            for (Thing t : all) {
                t.gone = true;
            }
            return all.size();
        });
    }

    int roll(int track, int i, int n) {
        return mayBeFound(() -> {
            Track where = trackOf(track);
            if (i < 0 || n < 0 || (long) i + n > where.places || n > 8) {
                throw finds(BEYOND);
            }
            for (int k = 0; k < n; k++) {
                Thing t = standing(where, i + k);
                if (t instanceof Wagon) {
                    throw finds(STORE);
                }
                row[k] = t instanceof Engine e ? e : null;
            }
            return n;
        });
    }

    int store(int thing, int i) {
        return mayBeFound(() -> {
            Thing stored = thingAs(Thing.class, thing);
            if (!in(i, 0, 7)) {
                throw finds(BEYOND);
            }
            if (!(stored instanceof Engine)) {
                throw finds(STORE);
            }
            row[i] = (Engine) stored;
            return 1;
        });
    }

    // ---- what is asked

    private static int number(Thing thing) {
        return thing == null ? NONE : thing.number;
    }

    int rolled(int i) {
        return mayBeFound(() -> {
            if (!in(i, 0, 7)) {
                throw finds(BEYOND);
            }
            return number(row[i]);
        });
    }

    int at(int track, int place) {
        return mayBeFound(() -> {
            Track where = trackOf(track);
            placeOn(where, place);
            return number(standing(where, place));
        });
    }

    int thing(int thing, int what) {
        if (!in(what, 0, 10)) {
            return BAD;
        }
        return mayBeFound(() -> {
            Thing t = thingAs(Thing.class, thing);
            int[] all = {t.kind, t.track.number, t.place, t.looks, number(t.mates[0]), number(t.mates[1]), t.serial,
                t.fault, t.jam, t.d, t.tested ? 1 : 0};
            return all[what];
        });
    }

    int pointed(int point, int what) {
        if (!in(what, 0, 4)) {
            return BAD;
        }
        return mayBeFound(() -> {
            Point p = pointOf(point);
            int[] all = {p.end.track.number, p.end.number, p.end.links.size(), p.set, p.lockedBy};
            return all[what];
        });
    }

    int ask(int thing, int what) {
        if (!in(what, 0, 7)) {
            return BAD;
        }
        return mayBeFound(() -> {
            switch (what) {
                case 0: return thingAs(Thing.class, thing).weight();
                case 1: return thingAs(Thing.class, thing).brake();
                case 2: return thingAs(Thing.class, thing).heavy();
                case 3: return thingAs(Thing.class, thing).perAxle();
                case 4: return thingAs(Engine.class, thing).pulls();
                case 5: return thingAs(Wagon.class, thing).danger;
                case 6:
                    Flat flat = thingAs(Flat.class, thing);
                    if (flat.load == null) {
                        throw finds(NOTHING);
                    }
                    return flat.pieces();
                default: return thingAs(Cold.class, thing).axles();
            }
        });
    }

    int meet(int thing, int side, int n) {
        if (!in(n, 0, 100)) {
            return BAD;
        }
        return mayBeFound(() -> {
            Thing now = thingAs(Thing.class, thing);
            sideIs(side);
            int out = side;
            for (int i = 0; i < n; i++) {
                Thing mate = now.mates[out];
                if (mate == null) {
                    throw finds(NOTHING);
                }
                out = 1 - mate.sideOf(now);
                now = mate;
            }
            return now.number;
        });
    }

    int weigh(int thing) {
        return mayBeFound(() -> {
            int sum = 0;
            for (Thing t : order(thingAs(Thing.class, thing))) {
                sum += t.weight();
            }
            return sum;
        });
    }

    int share(int thing) {
        return mayBeFound(() -> {
            int brakes = 0;
            int axles = 0;
            for (Thing t : order(thingAs(Thing.class, thing))) {
                brakes += t.brake();
                axles += t.axles();
            }
            if (axles == 0) {
                throw finds(ZERO);
            }
            return 100 * brakes / axles;
        });
    }

    int consist(int thing, int k) {
        if (k < 0) {
            return BAD;
        }
        return mayBeFound(() -> {
            List<Thing> all = order(thingAs(Thing.class, thing));
            return k < all.size() ? all.get(k).number : NONE;
        });
    }

    int finding(int what) {
        int[] all = {findingKind, findingFault, findingSteps, findingRoute};
        return in(what, 0, 3) ? all[what] : BAD;
    }

    int count(int k) {
        if (!in(k, -9, 17)) {
            return BAD;
        }
        int there = 0;
        for (Thing t : things) {
            there += t.gone ? 0 : 1;
        }
        int[] all = {tracks.size(), things.size(), there, runners.size(), damps, serials, points.size(),
            routes.size(), kept.size(), undone.size()};
        return k > 0 ? ever[k] : all[-k];
    }

    int trace(int k) {
        return k < 0 ? BAD : k < trace.size() ? trace.get(k) : NONE;
    }

    int undo() {
        if (kept.isEmpty()) {
            return 0;
        }
        undone.addLast(copy());
        kept.removeLast().run();
        return 1;
    }

    int back() {
        if (undone.isEmpty()) {
            return 0;
        }
        kept.addLast(copy());
        undone.removeLast().run();
        return 1;
    }

    long digest() {
        List<Integer> numbers = new ArrayList<>();
        for (Thing t : things) {
            if (t.gone) {
                numbers.add(-1);
            } else {
                numbers.addAll(List.of(24 * t.track.number + t.place, t.looks, number(t.mates[0]),
                        number(t.mates[1]), t.fault, t.jam, t.d, t.danger, t.tested ? 1 : 0));
            }
        }
        for (Point p : points) {
            numbers.add(p.set);
            numbers.add(p.lockedBy);
        }
        long d = 7;
        for (int number : numbers) {
            d = 31 * d + number;
        }
        return d;
    }

    int log(int k, int what) {
        if (k < 0 || !in(what, 0, 1)) {
            return BAD;
        }
        return k < Math.min(40, acts.size()) ? acts.get(acts.size() - 1 - k)[what] : NONE;
    }

    // ---- plans

    /** Rows of STACKS are texts: the WAGONS of each STACK from below, with a bar behind each STACK. */
    private final String[] start = {"", "", "", ""};
    private final String[] goal = {"", "", "", ""};
    private final int[] rooms = {5, 5, 5, 5};
    private List<int[]> plan;
    private List<String> rowsOfPlan;
    /** null BY RULE. */
    private Map<String, Integer> potentials;

    int room(int stack, int n) {
        if (!in(stack, 0, 3) || !in(n, 1, 10) || start[stack].length() > n || goal[stack].length() > n) {
            return BAD;
        }
        int was = rooms[stack];
        rooms[stack] = n;
        return was;
    }

    int lay(boolean toGoal, int stack, int wagon) {
        String[] stacks = toGoal ? goal : start;
        if (!in(stack, 0, 3) || !in(wagon, 0, 9) || wagonsOf(stacks).contains("" + wagon)
                || stacks[stack].length() == rooms[stack]) {
            return BAD;
        }
        stacks[stack] += wagon;
        return stacks[stack].length();
    }

    private static String wagonsOf(String[] stacks) {
        return String.join("", stacks);
    }

    private static String sorted(String[] stacks) {
        return wagonsOf(stacks).chars().sorted().collect(StringBuilder::new, StringBuilder::appendCodePoint,
                StringBuilder::append).toString();
    }

    int wipe() {
        int had = wagonsOf(start).length();
        for (int s = 0; s < 4; s++) {
            start[s] = "";
            goal[s] = "";
        }
        plan = null;
        return had;
    }

    /** null: there is no ROOM for it, or there are not so many. */
    private String[] moved(String[] stacks, int from, int to, int n) {
        if (n > stacks[from].length() || stacks[to].length() + n > rooms[to]) {
            return null;
        }
        String[] next = stacks.clone();
        int stay = stacks[from].length() - n;
        next[to] += stacks[from].substring(stay);
        next[from] = stacks[from].substring(0, stay);
        return next;
    }

    /** All MOVES and the rows to which they lead, in order of from, to, n. */
    private List<Map.Entry<int[], String[]>> nexts(String[] stacks) {
        List<Map.Entry<int[], String[]>> all = new ArrayList<>();
        for (int from = 0; from < 4; from++) {
            for (int to = 0; to < 4; to++) {
                for (int n = 1; n <= stacks[from].length() && from != to; n++) {
                    String[] next = moved(stacks, from, to, n);
                    if (next != null) {
                        all.add(Map.entry(new int[] {from, to, n}, next));
                    }
                }
            }
        }
        return all;
    }

    private static String text(String[] stacks) {
        return String.join("|", stacks);
    }

    private void allRows(String[] stacks, String wagons, Map<String, String[]> into) {
        if (wagons.isEmpty()) {
            into.put(text(stacks), stacks);
            return;
        }
        String wagon = wagons.substring(0, 1);
        for (int s = 0; s < 4; s++) {
            for (int i = 0; i <= stacks[s].length() && stacks[s].length() < rooms[s]; i++) {
                String[] more = stacks.clone();
                more[s] = stacks[s].substring(0, i) + wagon + stacks[s].substring(i);
                allRows(more, wagons.substring(1), into);
            }
        }
    }

    private Map<String, Integer> relaxed() {
        Map<String, String[]> rows = new TreeMap<>();
        allRows(new String[] {"", "", "", ""}, wagonsOf(goal), rows);
        Map<String, List<String>> ways = new TreeMap<>();
        for (Map.Entry<String, String[]> row : rows.entrySet()) {
            List<String> to = new ArrayList<>();
            for (Map.Entry<int[], String[]> next : nexts(row.getValue())) {
                to.add(text(next.getValue()));
            }
            ways.put(row.getKey(), to);
        }
        Map<String, Integer> least = new HashMap<>();
        least.put(text(goal), 0);
        boolean changed = true;
        while (changed) {
            changed = false;
            for (Map.Entry<String, List<String>> way : ways.entrySet()) {
                for (String to : way.getValue()) {
                    int over = least.containsKey(to) ? least.get(to) + 1 : Integer.MAX_VALUE;
                    if (over < least.getOrDefault(way.getKey(), Integer.MAX_VALUE)) {
                        least.put(way.getKey(), over);
                        changed = true;
                    }
                }
            }
        }
        return least;
    }

    int plan(int way) {
        if (!in(way, 0, 1) || !sorted(start).equals(sorted(goal)) || way == 0 && wagonsOf(start).length() > 5) {
            return BAD;
        }
        plan = null;
        if (way == 0) {
            planLeast();
        } else {
            planByRule();
        }
        return plan == null ? NONE : plan.size();
    }

    private void planLeast() {
        potentials = relaxed();
        if (!potentials.containsKey(text(start))) {
            return;
        }
        plan = new ArrayList<>();
        rowsOfPlan = new ArrayList<>();
        String[] now = start.clone();
        rowsOfPlan.add(text(now));
        while (potentials.get(text(now)) > 0) {
            for (Map.Entry<int[], String[]> next : nexts(now)) {
                Integer there = potentials.get(text(next.getValue()));
                if (there != null && there == potentials.get(text(now)) - 1) {
                    plan.add(next.getKey());
                    now = next.getValue();
                    break;
                }
            }
            rowsOfPlan.add(text(now));
        }
    }

    private int roomiest(String[] now, int but, int alsoBut) {
        int best = NONE;
        for (int s = 3; s >= 0; s--) {
            int left = rooms[s] - now[s].length();
            if (s != but && s != alsoBut && left > 0
                    && (best == NONE || left >= rooms[best] - now[best].length())) {
                best = s;
            }
        }
        return best;
    }

    private void planByRule() {
        potentials = null;
        List<int[]> moves = new ArrayList<>();
        String[] now = start.clone();
        for (int s = 0; s < 4; s++) {
            for (int i = 0; i < goal[s].length(); i++) {
                String wanted = goal[s].substring(i, i + 1);
                if (now[s].indexOf(wanted) == i) {
                    continue;
                }
                while (now[s].length() > i) {
                    int to = roomiest(now, s, s);
                    if (to == NONE) {
                        return;
                    }
                    moves.add(new int[] {s, to, 1});
                    now = moved(now, s, to, 1);
                }
                int t = 0;
                while (!now[t].contains(wanted)) {
                    t++;
                }
                while (!now[t].endsWith(wanted)) {
                    int to = roomiest(now, s, t);
                    if (to == NONE) {
                        return;
                    }
                    moves.add(new int[] {t, to, 1});
                    now = moved(now, t, to, 1);
                }
                moves.add(new int[] {t, s, 1});
                now = moved(now, t, s, 1);
                if (now == null) {
                    return;
                }
            }
        }
        plan = moves;
    }

    int move(int k, int what) {
        if (k < 0 || !in(what, 0, 2)) {
            return BAD;
        }
        return plan != null && k < plan.size() ? plan.get(k)[what] : NONE;
    }

    int bound() {
        if (!sorted(start).equals(sorted(goal))) {
            return BAD;
        }
        int sum = 0;
        for (char wagon : wagonsOf(start).toCharArray()) {
            if (!below(start, wagon).equals(below(goal, wagon))) {
                sum++;
            }
        }
        return sum;
    }

    private static String below(String[] stacks, char wagon) {
        for (int s = 0; s < 4; s++) {
            int i = stacks[s].indexOf(wagon);
            if (i >= 0) {
                return i == 0 ? "ground " + s : stacks[s].substring(i - 1, i);
            }
        }
        return "";
    }

    int proof(int k) {
        if (k < 0) {
            return BAD;
        }
        if (plan == null || potentials == null || k > plan.size()) {
            return NONE;
        }
        return potentials.get(rowsOfPlan.get(k));
    }

    int spoil(int k, int v) {
        if (k < 0 || !in(v, 0, 99)) {
            return BAD;
        }
        int was = proof(k);
        if (was != NONE) {
            potentials.put(rowsOfPlan.get(k), v);
        }
        return was;
    }

    int check() {
        if (plan == null) {
            return 0;
        }
        String[] now = start.clone();
        for (int[] move : plan) {
            now = moved(now, move[0], move[1], move[2]);
            if (now == null) {
                return 0;
            }
        }
        if (!text(now).equals(text(goal))) {
            return 0;
        }
        return potentials == null || isProved() ? 1 : 0;
    }

    private boolean isProved() {
        if (potentials.getOrDefault(text(goal), NONE) != 0
                || potentials.getOrDefault(text(start), NONE) != plan.size()) {
            return false;
        }
        for (Map.Entry<String, Integer> row : potentials.entrySet()) {
            for (Map.Entry<int[], String[]> next : nexts(row.getKey().split("\\|", -1))) {
                Integer there = potentials.get(text(next.getValue()));
                if (there == null || there < row.getValue() - 1) {
                    return false;
                }
            }
        }
        return true;
    }
}
