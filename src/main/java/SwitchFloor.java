/** A floor of switches that learn by listening; the document's promises say what each call does. */
public final class SwitchFloor {
    public static final int NONE = -1;
    public static final int ALL = 10;

    private static final int SWITCHES = 6;
    private static final int PORTS = 5;
    /** A spot is one port of one switch as a single number: switch * PORTS + port. */
    private static final int SPOTS = SWITCHES * PORTS;
    private static final int HOUSES = 10;
    private static final int LANES = 3;

    private static final int MOST_COST = 100;
    private static final int MOST_RANK = 15;
    private static final int FIRST_RANK = 8;
    private static final int MOST_GUARD = 2;
    private static final int ROOT_GUARD = 1;
    private static final int HOUSE_GUARD = 2;
    private static final int MOST_LANE_SET = 7;
    private static final int MOST_LIMIT = 100;
    private static final int FIRST_LIMIT = 20;
    private static final int MOST_BEATS = 30;

    /** What was told with this many hops, or more, is not taken. */
    private static final int HOPS_NOT_TAKEN = 7;
    private static final int BEATS_TO_WAIT = 2;

    private static final int ROLE_NONE = 0;
    private static final int ROLE_ROOT = 1;
    private static final int ROLE_DESIGNATED = 2;
    private static final int ROLE_NEITHER = 3;

    /** How long a port is shut: not at all, until a call ends it, or (above 0) until that beat. */
    private static final int NOT_SHUT = 0;
    private static final int SHUT_BY_HAND = -1;
    private static final int STORM_BEATS = 5;

    private static final int UNTAGGED = 0;
    private static final int NO_LANE = 0;
    private static final int MOST_ENTRIES = 8;
    private static final int ENTRY_BEATS = 10;
    private static final int MOST_STEPS = 400;
    private static final int MOST_HOPS = 12;
    private static final int MOST_WALKED = 12;
    private static final int FOUND_SCALE = 1000;

    private final Wiring wiring;
    private final Tree tree;
    /** Where a beat is tried out, so that asking for rest changes nothing. */
    private final Tree ahead;
    private final Lanes lanes;
    private final Tables tables;
    private final Steps steps;
    private final int[] floods;
    private final int[] gotFrames;
    private final int[] overheardFrames;
    private int floodLimit;

    public SwitchFloor() {
        Wiring laid = new Wiring();
        wiring = laid;
        tree = new Tree(laid);
        ahead = new Tree(laid);
        lanes = new Lanes();
        tables = new Tables();
        steps = new Steps();
        floods = new int[SPOTS];
        gotFrames = new int[HOUSES];
        overheardFrames = new int[HOUSES];
        floodLimit = FIRST_LIMIT;
    }

    // ---- the floor

    public int wire(int one, int port, int other, int otherPort, int cost)
            throws IndexOutOfBoundsException, IllegalArgumentException, IllegalStateException {
        needPort(one, port);
        needPort(other, otherPort);
        if (one == other) {
            throw new IllegalArgumentException("a wire leads to another switch");
        }
        needWithin(cost, 1, MOST_COST);
        int spot = spotOf(one, port);
        int otherSpot = spotOf(other, otherPort);
        if (!wiring.isBare(spot) || !wiring.isBare(otherSpot)) {
            throw new IllegalStateException("a port is taken");
        }
        wiring.putWire(spot, otherSpot, cost);
        return wiring.wires;
    }

    public int free(int one, int port) throws IndexOutOfBoundsException, IllegalStateException {
        needPort(one, port);
        int spot = spotOf(one, port);
        if (wiring.isBare(spot)) {
            throw new IllegalStateException("the port has neither a wire nor a house");
        }
        int peer = wiring.peer[spot];
        if (peer == NONE) {
            dropUse(spot);
            return wiring.takeHouse(spot);
        }
        dropUse(spot);
        dropUse(peer);
        wiring.takeWire(spot, peer);
        return NONE;
    }

    public int house(int one, int port, int house) throws IndexOutOfBoundsException, IllegalStateException {
        needPort(one, port);
        needHouse(house);
        int spot = spotOf(one, port);
        if (!wiring.isBare(spot) || wiring.spotOfHouse[house] != NONE) {
            throw new IllegalStateException("the port or the house is taken");
        }
        wiring.putHouse(spot, house);
        tree.openForHouse(spot);
        return wiring.houses;
    }

    public int rank(int one, int rank) throws IndexOutOfBoundsException, IllegalArgumentException {
        needSwitch(one);
        needWithin(rank, 0, MOST_RANK);
        int was = wiring.rank[one];
        wiring.rank[one] = rank;
        return was;
    }

    public boolean shut(int one, int port) throws IndexOutOfBoundsException {
        needPort(one, port);
        int spot = spotOf(one, port);
        if (tree.isShut(spot)) {
            tree.endShut(spot);
            return false;
        }
        shutUntil(spot, SHUT_BY_HAND);
        return true;
    }

    public int guard(int one, int port, int guard) throws IndexOutOfBoundsException, IllegalArgumentException {
        needPort(one, port);
        needWithin(guard, 0, MOST_GUARD);
        int spot = spotOf(one, port);
        int was = wiring.guard[spot];
        wiring.guard[spot] = guard;
        return was;
    }

    public void plain(int one, int port, int lane) throws IndexOutOfBoundsException {
        needPort(one, port);
        needLane(lane);
        lanes.setUp(spotOf(one, port), Lanes.bitOf(lane), lane);
    }

    public void trunk(int one, int port, int lanes, int lane)
            throws IndexOutOfBoundsException, IllegalArgumentException {
        needPort(one, port);
        needLane(lane);
        needWithin(lanes, 1, MOST_LANE_SET);
        this.lanes.setUp(spotOf(one, port), lanes, lane);
    }

    public int limit(int limit) throws IllegalArgumentException {
        needWithin(limit, 1, MOST_LIMIT);
        int was = floodLimit;
        floodLimit = limit;
        return was;
    }

    public int beat(int beats) throws IllegalArgumentException {
        needWithin(beats, 1, MOST_BEATS);
        for (int i = 0; i < beats; i++) {
            passBeat();
        }
        return tree.beats;
    }

    public int send(int from, int to, int tag, int second)
            throws IndexOutOfBoundsException, IllegalArgumentException, IllegalStateException {
        needHouse(from);
        if (to != ALL) {
            needHouse(to);
        }
        needWithin(tag, 0, LANES);
        needWithin(second, 0, LANES);
        if (from == to || (tag == UNTAGGED && second != UNTAGGED)) {
            throw new IllegalArgumentException("no such frame");
        }
        int spot = wiring.spotOfHouse[from];
        if (spot == NONE) {
            throw new IllegalStateException("the house is at no port");
        }
        steps.restart();
        steps.add(spot, tag, second, 0);
        int times = 0;
        for (int step = 0; step < MOST_STEPS && step < steps.size; step++) {
            times += takeStep(step, from, to);
        }
        return times;
    }

    // ---- asking

    public int holds(int one, int what) throws IndexOutOfBoundsException, IllegalArgumentException {
        needSwitch(one);
        switch (what) {
            case 0:
                return tree.root[one];
            case 1:
                return tree.cost[one];
            case 2:
                return tree.hops[one];
            case 3:
                return tree.rootPort[one];
            case 4:
                return tables.entries[one];
            default:
                throw new IllegalArgumentException("nothing of that kind is held");
        }
    }

    public int port(int one, int port, int what) throws IndexOutOfBoundsException, IllegalArgumentException {
        needPort(one, port);
        int spot = spotOf(one, port);
        switch (what) {
            case 0:
                return tree.open[spot] ? 1 : 0;
            case 1:
                return tree.role[spot];
            case 2:
                return tree.isShut(spot) ? 1 : 0;
            case 3:
                return floods[spot];
            default:
                throw new IllegalArgumentException("a port has nothing of that kind");
        }
    }

    public int table(int one, int lane, int house) throws IndexOutOfBoundsException {
        needSwitch(one);
        needLane(lane);
        needHouse(house);
        return tables.portFor(one, lane, house);
    }

    public int got(int house, boolean overheard) throws IndexOutOfBoundsException {
        needHouse(house);
        return overheard ? overheardFrames[house] : gotFrames[house];
    }

    public boolean isAtRest() {
        ahead.copyFrom(tree);
        ahead.pass();
        return ahead.looksLike(tree) && !ahead.hasWaitingPort();
    }

    public int found(int one) throws IndexOutOfBoundsException {
        needSwitch(one);
        tree.measureWays(one);
        int best = one;
        for (int other = 0; other < SWITCHES; other++) {
            if (tree.way[other] != NONE && wiring.isBetterName(other, best)) {
                best = other;
            }
        }
        return FOUND_SCALE * best + tree.way[best];
    }

    public int walk(int from, int to)
            throws IndexOutOfBoundsException, IllegalArgumentException, IllegalStateException {
        needHouse(from);
        needHouse(to);
        if (from == to) {
            throw new IllegalArgumentException("a walk leads to another house");
        }
        if (wiring.spotOfHouse[from] == NONE || wiring.spotOfHouse[to] == NONE) {
            throw new IllegalStateException("a house is at no port");
        }
        int spot = wiring.spotOfHouse[from];
        int tag = UNTAGGED;
        for (int walked = 1; walked <= MOST_WALKED; walked++) {
            int lane = laneLetIn(spot, tag);
            int out = lane == NO_LANE ? NONE : wayTold(spot / PORTS, lane, to);
            if (out == NONE) {
                return NONE;
            }
            if (wiring.peer[out] == NONE) {
                return wiring.house[out] == to ? walked : NONE;
            }
            tag = lanes.tagOut(out, lane);
            spot = wiring.peer[out];
        }
        return NONE;
    }

    // ---- what the calls are made of

    private static void needSwitch(int one) {
        if (one < 0 || one >= SWITCHES) {
            throw new IndexOutOfBoundsException("no such switch");
        }
    }

    private static void needPort(int one, int port) {
        needSwitch(one);
        if (port < 0 || port >= PORTS) {
            throw new IndexOutOfBoundsException("no such port");
        }
    }

    private static void needHouse(int house) {
        if (house < 0 || house >= HOUSES) {
            throw new IndexOutOfBoundsException("no such house");
        }
    }

    private static void needLane(int lane) {
        if (lane < 1 || lane > LANES) {
            throw new IndexOutOfBoundsException("no such lane");
        }
    }

    private static void needWithin(int value, int least, int most) {
        if (value < least || value > most) {
            throw new IllegalArgumentException("an argument is out of range");
        }
    }

    private static int spotOf(int one, int port) {
        return one * PORTS + port;
    }

    private void dropUse(int spot) {
        tree.close(spot);
        tables.forgetPort(spot);
    }

    private void shutUntil(int spot, int until) {
        tree.beginShut(spot, until);
        tables.forgetPort(spot);
    }

    private void passBeat() {
        tree.pass();
        for (int spot = 0; spot < SPOTS; spot++) {
            floods[spot] = 0;
            if (tree.caught[spot]) {
                tables.forgetPort(spot);
            }
        }
        for (int one = 0; one < SWITCHES; one++) {
            if (tree.stale[one]) {
                tables.empty(one);
            }
        }
        tables.dropOld(tree.beats);
    }

    /** The lane of a frame that comes to a port; NO_LANE if it does not come in there. */
    private int laneLetIn(int spot, int tag) {
        return tree.open[spot] ? lanes.laneIn(spot, tag) : NO_LANE;
    }

    /** The spot by which a table sends a walk on; NONE if it does not get out that way. */
    private int wayTold(int one, int lane, int house) {
        int port = tables.portFor(one, lane, house);
        if (port == NONE) {
            return NONE;
        }
        int out = spotOf(one, port);
        return tree.open[out] && lanes.carries(out, lane) ? out : NONE;
    }

    /** Takes one step of a frame; answers how many times houses got it by that. */
    private int takeStep(int step, int from, int to) {
        int spot = steps.spot[step];
        int lane = laneLetIn(spot, steps.tag[step]);
        if (lane == NO_LANE) {
            return 0;
        }
        int one = spot / PORTS;
        tables.hear(spot, lane, from, tree.beats);
        int port = to == ALL ? NONE : tables.portFor(one, lane, to);
        if (port == NONE || !tree.open[spotOf(one, port)]) {
            return flood(step, lane, to);
        }
        int out = spotOf(one, port);
        return out == spot ? 0 : goOut(out, step, lane, to);
    }

    private int flood(int step, int lane, int to) {
        int spot = steps.spot[step];
        floods[spot]++;
        if (floods[spot] > floodLimit) {
            shutUntil(spot, tree.beats + STORM_BEATS);
            return 0;
        }
        int first = spot - spot % PORTS;
        int times = 0;
        for (int out = first; out < first + PORTS; out++) {
            if (out != spot && tree.open[out]) {
                times += goOut(out, step, lane, to);
            }
        }
        return times;
    }

    private int goOut(int out, int step, int lane, int to) {
        if (!lanes.carries(out, lane)) {
            return 0;
        }
        int peer = wiring.peer[out];
        if (peer == NONE) {
            return handOver(wiring.house[out], to);
        }
        int hops = steps.hops[step] + 1;
        if (hops > MOST_HOPS) {
            return 0;
        }
        int left = steps.second[step];
        int tag = lanes.tagOut(out, lane);
        if (tag == UNTAGGED) {
            steps.add(peer, left, UNTAGGED, hops);
        } else {
            steps.add(peer, tag, left, hops);
        }
        return 0;
    }

    private int handOver(int house, int to) {
        if (house == NONE) {
            return 0;
        }
        if (to == ALL || to == house) {
            gotFrames[house]++;
            return 1;
        }
        overheardFrames[house]++;
        return 0;
    }

    /** What is put where, and what was set by hand for the tree: all that no beat changes. */
    private static final class Wiring {
        final int[] peer = new int[SPOTS];
        final int[] cost = new int[SPOTS];
        final int[] house = new int[SPOTS];
        final int[] guard = new int[SPOTS];
        final int[] spotOfHouse = new int[HOUSES];
        final int[] rank = new int[SWITCHES];
        int wires;
        int houses;

        Wiring() {
            for (int spot = 0; spot < SPOTS; spot++) {
                peer[spot] = NONE;
                house[spot] = NONE;
            }
            for (int i = 0; i < HOUSES; i++) {
                spotOfHouse[i] = NONE;
            }
            for (int one = 0; one < SWITCHES; one++) {
                rank[one] = FIRST_RANK;
            }
        }

        boolean isBare(int spot) {
            return peer[spot] == NONE && house[spot] == NONE;
        }

        boolean isBetterName(int one, int other) {
            return rank[one] != rank[other] ? rank[one] < rank[other] : one < other;
        }

        void putWire(int spot, int otherSpot, int price) {
            peer[spot] = otherSpot;
            peer[otherSpot] = spot;
            cost[spot] = price;
            cost[otherSpot] = price;
            wires++;
        }

        void takeWire(int spot, int otherSpot) {
            peer[spot] = NONE;
            peer[otherSpot] = NONE;
            wires--;
        }

        void putHouse(int spot, int guest) {
            house[spot] = guest;
            spotOfHouse[guest] = spot;
            houses++;
        }

        int takeHouse(int spot) {
            int guest = house[spot];
            house[spot] = NONE;
            if (guest != NONE) {
                spotOfHouse[guest] = NONE;
                houses--;
            }
            return guest;
        }
    }

    /** What switches hold and how ports are: all that a beat changes, but for the tables. */
    private static final class Tree {
        final Wiring wiring;
        final int[] root = new int[SWITCHES];
        final int[] cost = new int[SWITCHES];
        final int[] hops = new int[SWITCHES];
        final int[] rootPort = new int[SWITCHES];
        final int[] shutTill = new int[SPOTS];
        final boolean[] open = new boolean[SPOTS];
        final int[] role = new int[SPOTS];
        final int[] waited = new int[SPOTS];
        int beats;

        /** Rows of the latest beat: what came by each port, with the root NONE if nothing did. */
        final int[] toldRoot = new int[SPOTS];
        final int[] toldCost = new int[SPOTS];
        final int[] toldHops = new int[SPOTS];
        final boolean[] caught = new boolean[SPOTS];
        final boolean[] stale = new boolean[SWITCHES];

        final int[] way = new int[SWITCHES];

        Tree(Wiring laid) {
            wiring = laid;
            for (int one = 0; one < SWITCHES; one++) {
                root[one] = one;
                rootPort[one] = NONE;
            }
        }

        void copyFrom(Tree other) {
            for (int one = 0; one < SWITCHES; one++) {
                root[one] = other.root[one];
                cost[one] = other.cost[one];
                hops[one] = other.hops[one];
                rootPort[one] = other.rootPort[one];
            }
            for (int spot = 0; spot < SPOTS; spot++) {
                shutTill[spot] = other.shutTill[spot];
                open[spot] = other.open[spot];
                role[spot] = other.role[spot];
                waited[spot] = other.waited[spot];
            }
            beats = other.beats;
        }

        boolean looksLike(Tree other) {
            for (int one = 0; one < SWITCHES; one++) {
                if (root[one] != other.root[one] || cost[one] != other.cost[one] || hops[one] != other.hops[one]) {
                    return false;
                }
            }
            for (int spot = 0; spot < SPOTS; spot++) {
                if (open[spot] != other.open[spot] || role[spot] != other.role[spot]) {
                    return false;
                }
            }
            return true;
        }

        boolean hasWaitingPort() {
            for (int spot = 0; spot < SPOTS; spot++) {
                if (waited[spot] > 0) {
                    return true;
                }
            }
            return false;
        }

        boolean isShut(int spot) {
            return shutTill[spot] != NOT_SHUT;
        }

        boolean isJoined(int spot) {
            int peer = wiring.peer[spot];
            return peer != NONE && !isShut(spot) && !isShut(peer);
        }

        void close(int spot) {
            open[spot] = false;
            role[spot] = ROLE_NONE;
            waited[spot] = 0;
        }

        void openForHouse(int spot) {
            open[spot] = !isShut(spot) && wiring.house[spot] != NONE;
        }

        void beginShut(int spot, int until) {
            shutTill[spot] = until;
            close(spot);
        }

        void endShut(int spot) {
            shutTill[spot] = NOT_SHUT;
            openForHouse(spot);
        }

        /** One beat, in the document's order; the tables are left to the caller. */
        void pass() {
            beats++;
            tell();
            guardForHouses();
            for (int one = 0; one < SWITCHES; one++) {
                stale[one] = false;
                takeBest(one);
            }
            for (int spot = 0; spot < SPOTS; spot++) {
                turn(spot);
            }
            spreadStale();
            endStorms();
        }

        private void tell() {
            for (int spot = 0; spot < SPOTS; spot++) {
                toldRoot[spot] = NONE;
                if (isJoined(spot)) {
                    int teller = wiring.peer[spot] / PORTS;
                    toldRoot[spot] = root[teller];
                    toldCost[spot] = cost[teller];
                    toldHops[spot] = hops[teller];
                }
            }
        }

        private void guardForHouses() {
            for (int spot = 0; spot < SPOTS; spot++) {
                caught[spot] = wiring.guard[spot] == HOUSE_GUARD && toldRoot[spot] != NONE;
                if (caught[spot]) {
                    toldRoot[spot] = NONE;
                    beginShut(spot, SHUT_BY_HAND);
                }
            }
        }

        private void takeBest(int one) {
            root[one] = one;
            cost[one] = 0;
            hops[one] = 0;
            rootPort[one] = NONE;
            int first = spotOf(one, 0);
            for (int spot = first; spot < first + PORTS; spot++) {
                if (wiring.guard[spot] != ROOT_GUARD) {
                    offer(one, spot);
                }
            }
            int unguardedRoot = root[one];
            for (int spot = first; spot < first + PORTS; spot++) {
                if (wiring.guard[spot] == ROOT_GUARD && toldRoot[spot] != NONE
                        && !wiring.isBetterName(toldRoot[spot], unguardedRoot)) {
                    offer(one, spot);
                }
            }
        }

        private void offer(int one, int spot) {
            if (toldRoot[spot] == NONE || toldHops[spot] >= HOPS_NOT_TAKEN || !isBetterThanHeld(one, spot)) {
                return;
            }
            root[one] = toldRoot[spot];
            cost[one] = toldCost[spot] + wiring.cost[spot];
            hops[one] = toldHops[spot] + 1;
            rootPort[one] = spot % PORTS;
        }

        private boolean isBetterThanHeld(int one, int spot) {
            if (toldRoot[spot] != root[one]) {
                return wiring.isBetterName(toldRoot[spot], root[one]);
            }
            int price = toldCost[spot] + wiring.cost[spot];
            if (price != cost[one] || rootPort[one] == NONE) {
                return price < cost[one];
            }
            int teller = wiring.peer[spot];
            int heldTeller = wiring.peer[spotOf(one, rootPort[one])];
            if (teller / PORTS != heldTeller / PORTS) {
                return wiring.isBetterName(teller / PORTS, heldTeller / PORTS);
            }
            // A port has one wire, so the ports of one teller differ: the own ports never have to decide.
            return teller < heldTeller;
        }

        private void turn(int spot) {
            role[spot] = roleOf(spot);
            if (wiring.peer[spot] == NONE) {
                return;
            }
            if (role[spot] != ROLE_ROOT && role[spot] != ROLE_DESIGNATED) {
                waited[spot] = 0;
                turnTo(spot, false);
            } else if (!open[spot]) {
                waited[spot]++;
                if (waited[spot] > BEATS_TO_WAIT) {
                    waited[spot] = 0;
                    turnTo(spot, true);
                }
            }
        }

        /** A port that is shut was closed by that, so what turns here turns by its role. */
        private void turnTo(int spot, boolean opened) {
            if (open[spot] != opened) {
                open[spot] = opened;
                stale[spot / PORTS] = true;
            }
        }

        /** A port that a root guard holds back is neither: a better root than the held one came by it. */
        private int roleOf(int spot) {
            if (wiring.peer[spot] == NONE || isShut(spot)) {
                return ROLE_NONE;
            }
            if (rootPort[spot / PORTS] == spot % PORTS) {
                return ROLE_ROOT;
            }
            return toldRoot[spot] == NONE || isHeldBetter(spot) ? ROLE_DESIGNATED : ROLE_NEITHER;
        }

        private boolean isHeldBetter(int spot) {
            int one = spot / PORTS;
            if (root[one] != toldRoot[spot]) {
                return wiring.isBetterName(root[one], toldRoot[spot]);
            }
            if (cost[one] != toldCost[spot]) {
                return cost[one] < toldCost[spot];
            }
            // A wire leads to another switch, so the names differ: the ports never have to decide.
            return wiring.isBetterName(one, wiring.peer[spot] / PORTS);
        }

        /** A way without a round has fewer wires than there are switches, so as many rounds reach all. */
        private void spreadStale() {
            for (int round = 0; round < SWITCHES; round++) {
                for (int spot = 0; spot < SPOTS; spot++) {
                    if (stale[spot / PORTS] && isJoined(spot)) {
                        stale[wiring.peer[spot] / PORTS] = true;
                    }
                }
            }
        }

        private void endStorms() {
            for (int spot = 0; spot < SPOTS; spot++) {
                if (shutTill[spot] > 0 && shutTill[spot] <= beats) {
                    endShut(spot);
                }
            }
        }

        /** Fills the row of the cheapest ways from a switch to each; NONE where there is none. */
        void measureWays(int from) {
            for (int one = 0; one < SWITCHES; one++) {
                way[one] = one == from ? 0 : NONE;
            }
            for (int round = 0; round < SWITCHES; round++) {
                for (int spot = 0; spot < SPOTS; spot++) {
                    if (way[spot / PORTS] != NONE && isJoined(spot)) {
                        shorten(wiring.peer[spot] / PORTS, way[spot / PORTS] + wiring.cost[spot]);
                    }
                }
            }
        }

        private void shorten(int one, int price) {
            if (way[one] == NONE || price < way[one]) {
                way[one] = price;
            }
        }
    }

    /** Which lanes a port carries; a plain port is a trunk of its one lane, which is native there. */
    private static final class Lanes {
        final int[] carried = new int[SPOTS];
        final int[] untagged = new int[SPOTS];

        Lanes() {
            for (int spot = 0; spot < SPOTS; spot++) {
                carried[spot] = 1;
                untagged[spot] = 1;
            }
        }

        static int bitOf(int lane) {
            return 1 << (lane - 1);
        }

        void setUp(int spot, int set, int lane) {
            carried[spot] = set;
            untagged[spot] = lane;
        }

        boolean carries(int spot, int lane) {
            return (carried[spot] & bitOf(lane)) != 0;
        }

        int laneIn(int spot, int tag) {
            int lane = tag == UNTAGGED ? untagged[spot] : tag;
            return carries(spot, lane) ? lane : NO_LANE;
        }

        int tagOut(int spot, int lane) {
            return lane == untagged[spot] ? UNTAGGED : lane;
        }
    }

    /** Who was heard where, at all switches. */
    private static final class Tables {
        static final int ROWS = LANES * HOUSES;

        final int[] heardBy = new int[SWITCHES * ROWS];
        final int[] heardAt = new int[SWITCHES * ROWS];
        final int[] entries = new int[SWITCHES];

        Tables() {
            for (int i = 0; i < SWITCHES * ROWS; i++) {
                heardBy[i] = NONE;
            }
        }

        static int indexOf(int one, int lane, int house) {
            return one * ROWS + (lane - 1) * HOUSES + house;
        }

        int portFor(int one, int lane, int house) {
            return heardBy[indexOf(one, lane, house)];
        }

        void hear(int spot, int lane, int house, int beat) {
            int one = spot / PORTS;
            int index = indexOf(one, lane, house);
            if (heardBy[index] == NONE) {
                if (entries[one] >= MOST_ENTRIES) {
                    return;
                }
                entries[one]++;
            }
            heardBy[index] = spot % PORTS;
            heardAt[index] = beat;
        }

        void forgetPort(int spot) {
            int first = spot / PORTS * ROWS;
            for (int index = first; index < first + ROWS; index++) {
                if (heardBy[index] == spot % PORTS) {
                    drop(index);
                }
            }
        }

        void empty(int one) {
            int first = one * ROWS;
            for (int index = first; index < first + ROWS; index++) {
                heardBy[index] = NONE;
            }
            entries[one] = 0;
        }

        void dropOld(int beat) {
            for (int index = 0; index < SWITCHES * ROWS; index++) {
                if (heardBy[index] != NONE && beat - heardAt[index] >= ENTRY_BEATS) {
                    drop(index);
                }
            }
        }

        private void drop(int index) {
            heardBy[index] = NONE;
            entries[index / ROWS]--;
        }
    }

    /** The steps of one frame, in the order in which they are taken; more than a frame may take are not kept. */
    private static final class Steps {
        final int[] spot = new int[MOST_STEPS];
        final int[] tag = new int[MOST_STEPS];
        final int[] second = new int[MOST_STEPS];
        final int[] hops = new int[MOST_STEPS];
        int size;

        void restart() {
            size = 0;
        }

        void add(int toSpot, int withTag, int withSecond, int behindHops) {
            if (size >= MOST_STEPS) {
                return;
            }
            spot[size] = toSpot;
            tag[size] = withTag;
            second[size] = withSecond;
            hops[size] = behindHops;
            size++;
        }
    }
}
