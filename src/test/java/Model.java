import java.util.ArrayDeque;
import java.util.ArrayList;
import java.util.Comparator;
import java.util.Iterator;
import java.util.List;
import java.util.Map;
import java.util.TreeMap;
import java.util.TreeSet;

/**
 * The document once more, written straight from its words with the Java library and without a thought for
 * speed, so that ModelTest can hold the program against it. To ask for rest it replays all calls on a new model.
 */
final class Model {
    private static final int BY_HAND = Integer.MAX_VALUE;

    private static final class Port {
        Switch owner;
        int number;
        Port other;
        int cost;
        int house = -1;
        int shutUntil;
        int guard;
        boolean trunk;
        TreeSet<Integer> lanes = new TreeSet<>(List.of(1, 2, 3));
        int lane = 1;
        boolean open;
        int role;
        int dueSince = -1;
        int floods;
        Told told;

        boolean shut() {
            return shutUntil != 0;
        }

        boolean passable() {
            return other != null && !shut() && !other.shut();
        }
    }

    private record Told(int root, int cost, int hops, Port by) {
    }

    private static final class Heard {
        int port;
        int beat;
    }

    private record Frame(Port into, List<Integer> tags, int hops) {
    }

    private static final class Switch {
        int number;
        int rank = 8;
        List<Port> ports = new ArrayList<>();
        int root;
        int cost;
        int hops;
        Port rootPort;
        Map<Integer, Heard> table = new TreeMap<>();
    }

    private interface Change {
        void on(Model model);
    }

    private final List<Switch> switches = new ArrayList<>();
    private final List<Port> all = new ArrayList<>();
    private final List<Change> log = new ArrayList<>();
    private final int[] got = new int[10];
    private final int[] overheard = new int[10];
    private int limit = 20;
    private int now;

    Model() {
        for (int s = 0; s < 6; s++) {
            Switch made = new Switch();
            made.number = s;
            made.root = s;
            switches.add(made);
            for (int p = 0; p < 5; p++) {
                Port port = new Port();
                port.owner = made;
                port.number = p;
                made.ports.add(port);
                all.add(port);
            }
        }
    }

    // ---- what is refused

    private static void exists(boolean it) {
        if (!it) {
            throw new IndexOutOfBoundsException();
        }
    }

    private static void argument(boolean good) {
        if (!good) {
            throw new IllegalArgumentException();
        }
    }

    private static void possible(boolean it) {
        if (!it) {
            throw new IllegalStateException();
        }
    }

    private static boolean in(int value, int least, int most) {
        return least <= value && value <= most;
    }

    private Switch at(int s) {
        exists(in(s, 0, 5));
        return switches.get(s);
    }

    private Port at(int s, int p) {
        Switch one = at(s);
        exists(in(p, 0, 4));
        return one.ports.get(p);
    }

    private Port homeOf(int house) {
        for (Port port : all) {
            if (port.house == house) {
                return port;
            }
        }
        return null;
    }

    private boolean better(int one, int other) {
        return byName().compare(one, other) < 0;
    }

    private Comparator<Integer> byName() {
        return Comparator.<Integer>comparingInt(s -> switches.get(s).rank).thenComparingInt(s -> s);
    }

    // ---- the floor

    int wire(int one, int port, int other, int otherPort, int cost) {
        Port a = at(one, port);
        Port b = at(other, otherPort);
        argument(one != other && in(cost, 1, 100));
        possible(a.other == null && b.other == null && a.house < 0 && b.house < 0);
        a.other = b;
        b.other = a;
        a.cost = cost;
        b.cost = cost;
        log.add(m -> m.wire(one, port, other, otherPort, cost));
        return (int) all.stream().filter(p -> p.other != null).count() / 2;
    }

    private void lose(Port port) {
        port.open = false;
        port.role = 0;
        port.dueSince = -1;
        port.owner.table.values().removeIf(heard -> heard.port == port.number);
    }

    int free(int one, int port) {
        Port a = at(one, port);
        possible(a.other != null || a.house >= 0);
        int was = a.house;
        lose(a);
        a.house = -1;
        if (a.other != null) {
            lose(a.other);
            a.other.other = null;
            a.other = null;
        }
        log.add(m -> m.free(one, port));
        return was;
    }

    int house(int one, int port, int house) {
        Port a = at(one, port);
        exists(in(house, 0, 9));
        possible(a.other == null && a.house < 0 && homeOf(house) == null);
        a.house = house;
        a.open = !a.shut();
        log.add(m -> m.house(one, port, house));
        return (int) all.stream().filter(p -> p.house >= 0).count();
    }

    int rank(int one, int rank) {
        Switch a = at(one);
        argument(in(rank, 0, 15));
        int was = a.rank;
        a.rank = rank;
        log.add(m -> m.rank(one, rank));
        return was;
    }

    boolean shut(int one, int port) {
        Port a = at(one, port);
        if (a.shut()) {
            a.shutUntil = 0;
            a.open = a.house >= 0;
        } else {
            a.shutUntil = BY_HAND;
            lose(a);
        }
        log.add(m -> m.shut(one, port));
        return a.shut();
    }

    int guard(int one, int port, int guard) {
        Port a = at(one, port);
        argument(in(guard, 0, 2));
        int was = a.guard;
        a.guard = guard;
        log.add(m -> m.guard(one, port, guard));
        return was;
    }

    void plain(int one, int port, int lane) {
        Port a = at(one, port);
        exists(in(lane, 1, 3));
        a.trunk = false;
        a.lane = lane;
        log.add(m -> m.plain(one, port, lane));
    }

    void trunk(int one, int port, int lanes, int lane) {
        Port a = at(one, port);
        exists(in(lane, 1, 3));
        argument(in(lanes, 1, 7));
        a.trunk = true;
        a.lanes.clear();
        for (int l = 1; l <= 3; l++) {
            if ((lanes >> (l - 1)) % 2 == 1) {
                a.lanes.add(l);
            }
        }
        a.lane = lane;
        log.add(m -> m.trunk(one, port, lanes, lane));
    }

    int limit(int limit) {
        argument(in(limit, 1, 100));
        int was = this.limit;
        this.limit = limit;
        log.add(m -> m.limit(limit));
        return was;
    }

    int beat(int beats) {
        argument(in(beats, 1, 30));
        for (int i = 0; i < beats; i++) {
            beatOnce();
        }
        log.add(m -> m.beat(beats));
        return now;
    }

    private void beatOnce() {
        now++;
        for (Port port : all) {
            port.floods = 0;
            port.told = null;
            if (port.passable()) {
                Switch from = port.other.owner;
                port.told = new Told(from.root, from.cost, from.hops, port);
            }
        }
        for (Port port : all) {
            if (port.guard == 2 && port.told != null) {
                port.told = null;
                port.shutUntil = BY_HAND;
                lose(port);
            }
        }
        for (Switch one : switches) {
            choose(one);
        }
        List<Switch> changed = new ArrayList<>();
        for (Port port : all) {
            if (port.other != null && turns(port)) {
                changed.add(port.owner);
            }
        }
        for (Switch one : changed) {
            for (Switch reached : reachable(one, new ArrayList<>())) {
                reached.table.clear();
            }
        }
        for (Switch one : switches) {
            one.table.values().removeIf(heard -> heard.beat <= now - 10);
        }
        for (Port port : all) {
            if (port.shutUntil == now) {
                port.shutUntil = 0;
                port.open = port.house >= 0;
            }
        }
    }

    private void choose(Switch one) {
        Comparator<Told> order = Comparator.<Told, Integer>comparing(Told::root, byName())
                .thenComparingInt(told -> told.cost() + told.by().cost)
                .thenComparing(told -> told.by().other.owner.number, byName())
                .thenComparingInt(told -> told.by().other.number)
                .thenComparingInt(told -> told.by().number);
        List<Told> free = new ArrayList<>();
        List<Told> guarded = new ArrayList<>();
        for (Port port : one.ports) {
            if (port.told != null && port.told.hops() < 7) {
                (port.guard == 1 ? guarded : free).add(port.told);
            }
        }
        free.sort(order);
        int plainRoot = free.isEmpty() || better(one.number, free.get(0).root()) ? one.number : free.get(0).root();
        guarded.removeIf(told -> better(told.root(), plainRoot));
        free.addAll(guarded);
        free.sort(order);
        if (free.isEmpty() || !better(free.get(0).root(), one.number)) {
            one.root = one.number;
            one.cost = 0;
            one.hops = 0;
            one.rootPort = null;
        } else {
            Told best = free.get(0);
            one.root = best.root();
            one.cost = best.cost() + best.by().cost;
            one.hops = best.hops() + 1;
            one.rootPort = best.by();
        }
    }

    /** Sets role and openness of a port with a wire; answers whether it opened or closed by its role. */
    private boolean turns(Port port) {
        boolean was = port.open;
        port.role = 0;
        if (!port.shut()) {
            port.role = port.owner.rootPort == port ? 1 : designated(port) ? 2 : 3;
        }
        if (port.role != 1 && port.role != 2) {
            port.dueSince = -1;
            port.open = false;
        } else {
            port.dueSince = port.dueSince < 0 ? now : port.dueSince;
            port.open = now - port.dueSince >= 2;
        }
        return was != port.open;
    }

    private boolean designated(Port port) {
        if (port.told == null) {
            return true;
        }
        Switch own = port.owner;
        if (own.root != port.told.root()) {
            return better(own.root, port.told.root());
        }
        if (own.cost != port.told.cost()) {
            return own.cost < port.told.cost();
        }
        return better(own.number, port.other.owner.number);
    }

    private List<Switch> reachable(Switch from, List<Switch> found) {
        if (!found.contains(from)) {
            found.add(from);
            for (Port port : from.ports) {
                if (port.passable()) {
                    reachable(port.other.owner, found);
                }
            }
        }
        return found;
    }

    // ---- frames

    private static int laneIn(Port port, List<Integer> tags) {
        if (!port.open) {
            return 0;
        }
        if (port.trunk) {
            int lane = tags.isEmpty() ? port.lane : tags.remove(0);
            return port.lanes.contains(lane) ? lane : 0;
        }
        if (tags.isEmpty()) {
            return port.lane;
        }
        return tags.remove(0) == port.lane ? port.lane : 0;
    }

    /** The tags behind a port, or null if the lane does not go out there. */
    private static List<Integer> tagsOut(Port port, int lane, List<Integer> left) {
        List<Integer> tags = new ArrayList<>(left);
        if (port.trunk ? !port.lanes.contains(lane) : port.lane != lane) {
            return null;
        }
        if (port.trunk && port.lane != lane) {
            tags.add(0, lane);
        }
        return tags;
    }

    int send(int from, int to, int tag, int second) {
        exists(in(from, 0, 9) && in(to, 0, 10));
        argument(from != to && in(tag, 0, 3) && in(second, 0, 3) && (tag != 0 || second == 0));
        Port home = homeOf(from);
        possible(home != null);
        log.add(m -> m.send(from, to, tag, second));
        List<Integer> tags = new ArrayList<>();
        if (tag != 0) {
            tags.add(tag);
        }
        if (second != 0) {
            tags.add(second);
        }
        ArrayDeque<Frame> queue = new ArrayDeque<>();
        queue.add(new Frame(home, tags, 0));
        int times = 0;
        for (int step = 0; step < 400 && !queue.isEmpty(); step++) {
            times += step(queue.remove(), from, to, queue);
        }
        return times;
    }

    private int step(Frame frame, int from, int to, ArrayDeque<Frame> queue) {
        Port into = frame.into();
        Switch one = into.owner;
        List<Integer> left = new ArrayList<>(frame.tags());
        int lane = laneIn(into, left);
        if (lane == 0) {
            return 0;
        }
        if (one.table.size() < 8 || one.table.containsKey(lane * 100 + from)) {
            Heard heard = one.table.computeIfAbsent(lane * 100 + from, key -> new Heard());
            heard.port = into.number;
            heard.beat = now;
        }
        List<Port> outs = new ArrayList<>();
        Heard known = to == 10 ? null : one.table.get(lane * 100 + to);
        if (known != null && one.ports.get(known.port).open) {
            outs.add(one.ports.get(known.port));
        } else {
            into.floods++;
            if (into.floods > limit) {
                into.shutUntil = now + 5;
                lose(into);
                return 0;
            }
            outs.addAll(one.ports);
            outs.removeIf(port -> !port.open);
        }
        outs.remove(into);
        int times = 0;
        for (Port out : outs) {
            List<Integer> tags = tagsOut(out, lane, left);
            if (tags == null) {
                continue;
            }
            if (out.other != null) {
                if (frame.hops() < 12) {
                    queue.add(new Frame(out.other, tags, frame.hops() + 1));
                }
            } else if (to == 10 || to == out.house) {
                got[out.house]++;
                times++;
            } else {
                overheard[out.house]++;
            }
        }
        return times;
    }

    // ---- asking

    int holds(int one, int what) {
        Switch a = at(one);
        argument(in(what, 0, 4));
        int port = a.rootPort == null ? -1 : a.rootPort.number;
        return List.of(a.root, a.cost, a.hops, port, a.table.size()).get(what);
    }

    int port(int one, int port, int what) {
        Port a = at(one, port);
        argument(in(what, 0, 3));
        return List.of(a.open ? 1 : 0, a.role, a.shut() ? 1 : 0, a.floods).get(what);
    }

    int table(int one, int lane, int house) {
        Switch a = at(one);
        exists(in(lane, 1, 3) && in(house, 0, 9));
        Heard heard = a.table.get(lane * 100 + house);
        return heard == null ? -1 : heard.port;
    }

    int got(int house, boolean over) {
        exists(in(house, 0, 9));
        return (over ? overheard : got)[house];
    }

    boolean isAtRest() {
        Model next = new Model();
        for (Change change : log) {
            change.on(next);
        }
        next.beatOnce();
        for (Switch one : switches) {
            Switch then = next.switches.get(one.number);
            if (one.root != then.root || one.cost != then.cost || one.hops != then.hops) {
                return false;
            }
        }
        Iterator<Port> thenPorts = next.all.iterator();
        for (Port port : all) {
            Port then = thenPorts.next();
            boolean waits = then.other != null && !then.open && then.dueSince >= 0;
            if (port.open != then.open || port.role != then.role || waits) {
                return false;
            }
        }
        return true;
    }

    int found(int one) {
        Switch from = at(one);
        Switch best = from;
        for (Switch reached : reachable(from, new ArrayList<>())) {
            best = better(reached.number, best.number) ? reached : best;
        }
        return 1000 * best.number + cheapest(from, best, new ArrayList<>());
    }

    private int cheapest(Switch from, Switch to, List<Switch> behind) {
        if (from == to) {
            return 0;
        }
        int least = 100000;
        behind.add(from);
        for (Port port : from.ports) {
            if (port.passable() && !behind.contains(port.other.owner)) {
                least = Math.min(least, port.cost + cheapest(port.other.owner, to, behind));
            }
        }
        behind.remove(from);
        return least;
    }

    int walk(int from, int to) {
        exists(in(from, 0, 9) && in(to, 0, 9));
        argument(from != to);
        possible(homeOf(from) != null && homeOf(to) != null);
        Port into = homeOf(from);
        List<Integer> tags = new ArrayList<>();
        for (int count = 1; count <= 12; count++) {
            int lane = laneIn(into, tags);
            Heard heard = into.owner.table.get(lane * 100 + to);
            if (lane == 0 || heard == null) {
                return -1;
            }
            Port out = into.owner.ports.get(heard.port);
            tags = tagsOut(out, lane, tags);
            if (!out.open || tags == null) {
                return -1;
            }
            if (out.other == null) {
                return out.house == to ? count : -1;
            }
            into = out.other;
        }
        return -1;
    }
}
