/** A test for each sentence of the terms that names a boundary case of switches, ports, wires, and the tree. */
public final class TreeBoundaryTest {
    public static void main(String[] args) {
        switchesAndPorts();
        eachPortAlone();
        costs();
        housesInPlaceOfWires();
        ranks();
        names();
        shutInThreeWays();
        heldAtFirst();
        toldAhead();
        itself();
        hopsBelowSeven();
        tiesByRootAndCost();
        tiesByNameAndPort();
        ownRootHasNoPort();
        designatedIfNothingCame();
        designatedByCostAndName();
        neverOpen();
        waitsForTheSecondBeat();
        waitsAnew();
        houseIsOpenAtOnce();
        closedAtOnce();
        newWireIsClosed();
        rootGuardAndBetterRoots();
        rootGuardAndLikeRoots();
        houseGuard();
        emptiedByRole();
        notEmptiedByShutting();
        emptiedAsFarAsReached();
        orderOfTellingAndGuards();
        guardsAheadOfTables();
        tablesAheadOfStorms();
        stormsBehindAll();
        Check.end();
    }

    private static void is(String what, long due, long got) {
        Check.is(what, due, got);
    }

    private static int open(SwitchFloor floor, int one, int port) {
        return floor.port(one, port, 0);
    }

    private static int role(SwitchFloor floor, int one, int port) {
        return floor.port(one, port, 1);
    }

    private static int isShut(SwitchFloor floor, int one, int port) {
        return floor.port(one, port, 2);
    }

    // ---- switches, ports, wires

    private static void switchesAndPorts() {
        Doc.terms("There are the switches 0 to 5, each with the ports 0 to 4.");
        SwitchFloor floor = Floors.allWired();
        floor.beat(1);
        for (int one = 0; one < 6; one++) {
            for (int port = 0; port < 5; port++) {
                is("port " + port + " of " + one + " has a wire, and so a role", 1, role(floor, one, port) > 0 ? 1 : 0);
            }
            int last = one;
            Check.gives("no port -1 of " + one, Check.OUT_OF_BOUNDS, () -> floor.port(last, -1, 0));
            Check.gives("no port 5 of " + one, Check.OUT_OF_BOUNDS, () -> floor.port(last, 5, 0));
        }
        Check.gives("no switch -1", Check.OUT_OF_BOUNDS, () -> floor.port(-1, 0, 0));
        Check.gives("no switch 6", Check.OUT_OF_BOUNDS, () -> floor.port(6, 0, 0));
        floor.free(5, 4);
        is("all fifteen wires", 15, floor.wire(4, 4, 5, 4, 1));
    }

    /** A wire from each port of all, with a house at either end: what it opens, lets through, empties, and shuts. */
    private static void eachPortAlone() {
        Doc.terms("There are the switches 0 to 5, each with the ports 0 to 4.");
        for (int spot = 0; spot < 30; spot++) {
            int one = spot / 5;
            int port = spot % 5;
            int other = (one + 1) % 6;
            int otherPort = (port + 3) % 5;
            int best = Math.min(one, other);
            SwitchFloor floor = new SwitchFloor();
            floor.wire(one, port, other, otherPort, 7);
            floor.house(one, (port + 1) % 5, 0);
            floor.house(other, (otherPort + 1) % 5, 9);
            floor.send(0, 9, 0, 0);
            String what = "port " + port + " of " + one + ", ";
            is(what + "waits", 0, floor.isAtRest() ? 1 : 0);
            floor.beat(3);
            is(what + "at rest", 1, floor.isAtRest() ? 1 : 0);
            is(what + "open at both ends", 2, open(floor, one, port) + open(floor, other, otherPort));
            is(what + "has emptied the table", 0, floor.holds(one, 4));
            is(what + "tells", 2 * best, floor.holds(one, 0) + floor.holds(other, 0));
            is(what + "lets through", 2, floor.send(0, 9, 0, 0) + floor.send(9, 0, 0, 0));
            is(what + "is heard by", port, floor.table(one, 1, 9));
            is(what + "and its other end", otherPort, floor.table(other, 1, 0));
            is(what + "leads to the best one", 1000 * best + (one == best ? 0 : 7), floor.found(one));
            is(what + "is walked by", 2, floor.walk(0, 9));
            floor.rank(other, 0);
            is(what + "leads to a better one", 1000 * other + 7, floor.found(one));
            floor.rank(other, 8);
            emptiedBehind(what, floor, one, (port + 2) % 5, other);
            floor.guard(one, port, 2);
            floor.beat(1);
            is(what + "shut by its guard", 1, isShut(floor, one, port));
            is(what + "leads nowhere", 1000 * other, floor.found(other));
        }
    }

    /** A new wire from the one to a third switch empties, as it opens, the other one's table, too. */
    private static void emptiedBehind(String what, SwitchFloor floor, int one, int freePort, int other) {
        is(what + "heard behind it", 2, floor.holds(other, 4));
        floor.wire((one + 2) % 6, 0, one, freePort, 1);
        floor.beat(3);
        is(what + "emptied behind it", 0, floor.holds(other, 4));
    }

    private static void costs() {
        Doc.terms("A wire leads from a port of a switch to a port of another one, with a cost, 1 to 100");
        SwitchFloor floor = new SwitchFloor();
        floor.wire(0, 0, 1, 0, 1);
        floor.wire(1, 4, 2, 4, 100);
        floor.beat(3);
        is("1 costs 1", 1, floor.holds(1, 1));
        is("100 costs 100 more", 101, floor.holds(2, 1));
        Check.gives("0", Check.BAD_ARGUMENT, () -> floor.wire(3, 0, 4, 0, 0));
        Check.gives("101", Check.BAD_ARGUMENT, () -> floor.wire(3, 0, 4, 0, 101));
        Check.gives("to another port of the same", Check.BAD_ARGUMENT, () -> floor.wire(3, 0, 3, 4, 1));
        Check.gives("to the same port", Check.BAD_ARGUMENT, () -> floor.wire(3, 0, 3, 0, 1));
        is("the next one", 3, floor.wire(3, 0, 4, 0, 1));
    }

    private static void housesInPlaceOfWires() {
        Doc.terms("at a port there may be a house, 0 to 9, in place of a wire");
        SwitchFloor floor = Floors.row(2, 1);
        floor.house(0, 0, 0);
        floor.house(5, 4, 9);
        Check.gives("no house -1", Check.OUT_OF_BOUNDS, () -> floor.house(3, 0, -1));
        Check.gives("no house 10", Check.OUT_OF_BOUNDS, () -> floor.house(3, 0, 10));
        Check.gives("no house at one end", Check.BAD_STATE, () -> floor.house(0, 1, 5));
        Check.gives("no house at the other end", Check.BAD_STATE, () -> floor.house(1, 2, 5));
        Check.gives("no wire from a house", Check.BAD_STATE, () -> floor.wire(0, 0, 3, 0, 1));
        Check.gives("no wire to a house", Check.BAD_STATE, () -> floor.wire(3, 0, 0, 0, 1));
        floor.free(0, 0);
        is("a wire in place of the house", 2, floor.wire(3, 0, 0, 0, 1));
        floor.free(1, 2);
        is("a house in place of the wire", 2, floor.house(1, 2, 0));
    }

    private static void ranks() {
        Doc.terms("A switch has a rank, 0 to 15, 8 at first");
        for (int one = 0; one < 6; one++) {
            int last = one;
            SwitchFloor floor = new SwitchFloor();
            is("8 at first", 8, floor.rank(one, 15));
            is("the greatest", 15, floor.rank(one, 0));
            is("the least", 0, floor.rank(one, 8));
            Check.gives("16", Check.BAD_ARGUMENT, () -> floor.rank(last, 16));
            Check.gives("-1", Check.BAD_ARGUMENT, () -> floor.rank(last, -1));
            is("as it was", 8, floor.rank(one, 8));
        }
    }

    private static void names() {
        Doc.terms("of two the one with the lesser rank, as it is when that is looked at, "
                + "of like ones with the lesser number, is better");
        SwitchFloor floor = Floors.row(2, 1);
        is("like ones", 0, floor.found(1) / 1000);
        floor.rank(0, 9);
        is("one more", 1, floor.found(0) / 1000);
        floor.rank(1, 9);
        is("like ones again", 0, floor.found(1) / 1000);
        floor.rank(0, 15);
        floor.rank(1, 14);
        is("15 and 14", 1, floor.found(0) / 1000);
        floor.rank(0, 1);
        floor.rank(1, 0);
        is("1 and 0", 1, floor.found(0) / 1000);
        floor.rank(0, 0);
        floor.beat(1);
        is("0 and 0", 0, floor.holds(1, 0));
        floor.rank(0, 1);
        floor.beat(1);
        is("what was held and told as the better one is not any more", 1, floor.holds(1, 0));
    }

    private static void shutInThreeWays() {
        Doc.terms("A port may be shut, by hand, by a guard, or by a storm: "
                + "then nothing goes through it, and nothing is told by it.");
        SwitchFloor byHand = Floors.housedRow(2);
        byHand.shut(1, 2);
        nothingPasses("by hand", byHand);
        SwitchFloor byGuard = Floors.housedRow(2);
        byGuard.guard(1, 2, 2);
        byGuard.beat(1);
        nothingPasses("by a guard", byGuard);
        SwitchFloor byStorm = Floors.housedRow(2);
        byStorm.house(0, 3, 3);
        byStorm.limit(1);
        byStorm.send(0, 10, 0, 0);
        byStorm.send(3, 10, 0, 0);
        byStorm.limit(20);
        nothingPasses("by a storm", byStorm);
    }

    private static void nothingPasses(String how, SwitchFloor floor) {
        is(how, 1, isShut(floor, 1, 2));
        is(how + ", closed", 0, open(floor, 1, 2));
        int got = floor.got(1, false);
        floor.send(0, 10, 0, 0);
        is(how + ", no frame in", got, floor.got(1, false));
        is(how + ", no frame out", 0, floor.send(1, 10, 0, 0));
        floor.beat(1);
        is(how + ", nothing is told in", 1, floor.holds(1, 0));
        floor.rank(1, 0);
        floor.beat(2);
        is(how + ", nothing is told out", 0, floor.holds(0, 0));
    }

    // ---- what switches hold

    private static void heldAtFirst() {
        Doc.terms("What a switch holds is a root (a switch, by its name), a cost to it, and hops; "
                + "at first itself, 0 and 0.");
        SwitchFloor floor = Floors.allWired();
        floor.rank(3, 0);
        for (int one = 0; one < 6; one++) {
            is("root of " + one + " ahead of a beat", one, floor.holds(one, 0));
            is("cost of " + one, 0, floor.holds(one, 1));
            is("hops of " + one, 0, floor.holds(one, 2));
            is("no root port of " + one, -1, floor.holds(one, 3));
        }
    }

    private static void toldAhead() {
        Doc.terms("In each beat all switches tell, by all ports that have a wire and are not shut (at both ends), "
                + "what they held ahead of the beat");
        SwitchFloor floor = Floors.row(6, 1);
        for (int beat = 1; beat <= 5; beat++) {
            floor.beat(1);
            for (int one = 0; one < 6; one++) {
                is("root of " + one + " in beat " + beat, Math.max(0, one - beat), floor.holds(one, 0));
            }
        }
        for (int end = 0; end < 2; end++) {
            SwitchFloor cut = Floors.row(2, 1);
            cut.shut(end, end == 0 ? 1 : 2);
            cut.beat(1);
            is("nothing to 1, shut at " + end, 1, cut.holds(1, 0));
            cut.rank(1, 0);
            cut.beat(2);
            is("nothing to 0, shut at " + end, 0, cut.holds(0, 0));
            cut.shut(end, end == 0 ? 1 : 2);
            cut.beat(1);
            is("it is told also by a port that is closed", 1, cut.holds(0, 0));
        }
    }

    private static void itself() {
        Doc.terms("itself as root, with the cost 0 and 0 hops");
        SwitchFloor floor = Floors.row(2, 1);
        floor.beat(2);
        is("told of itself as root, it stays its own", 0, floor.holds(0, 0));
        is("with the cost 0", 0, floor.holds(0, 1));
        is("and 0 hops", 0, floor.holds(0, 2));
    }

    /** Cut off from the root, 1 and 2 tell each other of it with ever more hops, until 2 is told of it with 7. */
    private static void hopsBelowSeven() {
        Doc.terms("what came by a port, if its hops, as they were told, are below 7, with the cost of the wire added, "
                + "and 1 hop more");
        SwitchFloor floor = Floors.row(3, 10);
        floor.beat(3);
        floor.free(0, 1);
        int[] hopsOf1 = {3, 3, 5, 5, 7, 7, 0};
        int[] hopsOf2 = {2, 4, 4, 6, 6, 0, 0};
        for (int beat = 0; beat < hopsOf1.length; beat++) {
            floor.beat(1);
            is("hops of 1, beat " + (beat + 1), hopsOf1[beat], floor.holds(1, 2));
            is("cost of 1, beat " + (beat + 1), 10 * hopsOf1[beat], floor.holds(1, 1));
            is("hops of 2, beat " + (beat + 1), hopsOf2[beat], floor.holds(2, 2));
            is("cost of 2, beat " + (beat + 1), 10 * hopsOf2[beat], floor.holds(2, 1));
        }
        is("root of 1", 1, floor.holds(1, 0));
        is("root of 2", 2, floor.holds(2, 0));
        floor.beat(1);
        is("then 2 is told of 1", 1, floor.holds(2, 0));
    }

    private static final String TIES = "by the better root, then the lesser cost, then the better name of the switch "
            + "that told it, then the lower port of that, then the lower own port";

    private static void tiesByRootAndCost() {
        Doc.terms(TIES);
        SwitchFloor floor = new SwitchFloor();
        floor.wire(0, 0, 2, 0, 100);
        floor.wire(1, 0, 2, 1, 1);
        floor.beat(1);
        is("the better root, though it is dear", 0, floor.holds(2, 0));
        is("its cost", 100, floor.holds(2, 1));
        SwitchFloor costs = new SwitchFloor();
        costs.wire(0, 0, 1, 0, 50);
        costs.wire(0, 1, 1, 1, 49);
        costs.beat(1);
        is("the cost that is lesser by 1, though by a higher port", 1, costs.holds(1, 3));
        SwitchFloor tellers = new SwitchFloor();
        tellers.wire(0, 0, 1, 0, 2);
        tellers.wire(0, 1, 2, 0, 1);
        tellers.wire(1, 1, 3, 0, 1);
        tellers.wire(2, 1, 3, 1, 1);
        tellers.beat(3);
        is("the cost that is lesser by 1, though by a worse name", 1, tellers.holds(3, 3));
        is("that cost", 2, tellers.holds(3, 1));
    }

    private static void tiesByNameAndPort() {
        Doc.terms(TIES);
        SwitchFloor floor = new SwitchFloor();
        floor.wire(0, 0, 1, 4, 1);
        floor.wire(0, 1, 2, 0, 1);
        floor.wire(1, 3, 3, 1, 1);
        floor.wire(2, 1, 3, 0, 1);
        floor.beat(3);
        is("the lesser number, though by its higher port", 1, floor.holds(3, 3));
        floor.rank(0, 0);
        floor.rank(2, 7);
        floor.beat(1);
        is("the lesser rank ahead of that", 0, floor.holds(3, 3));
        SwitchFloor ports = new SwitchFloor();
        ports.wire(0, 4, 1, 0, 1);
        ports.wire(0, 0, 1, 4, 1);
        ports.beat(1);
        is("the lower port of the teller, though by the higher own one", 4, ports.holds(1, 3));
        ports.shut(1, 4);
        ports.beat(1);
        is("the other one, the lower own one", 0, ports.holds(1, 3));
        for (int lower = 0; lower < 4; lower++) {
            for (int higher = lower + 1; higher < 5; higher++) {
                lowerPortOfTeller(lower, higher);
            }
        }
    }

    private static void lowerPortOfTeller(int lower, int higher) {
        SwitchFloor floor = new SwitchFloor();
        floor.wire(2, lower, 5, 4, 1);
        floor.wire(2, higher, 5, 0, 1);
        floor.beat(1);
        is(lower + " of the teller ahead of " + higher, 4, floor.holds(5, 3));
        is("the other is neither", 3, role(floor, 5, 0));
    }

    private static void ownRootHasNoPort() {
        Doc.terms("The port by which that came is its root port, if it is not its own root.");
        SwitchFloor floor = new SwitchFloor();
        floor.wire(0, 4, 1, 0, 1);
        floor.wire(1, 4, 2, 4, 1);
        is("its own root at first", -1, floor.holds(1, 3));
        floor.beat(2);
        is("its own root", -1, floor.holds(0, 3));
        is("the port 0", 0, floor.holds(1, 3));
        is("role of it", 1, role(floor, 1, 0));
        is("the port 4", 4, floor.holds(2, 3));
        is("role of that", 1, role(floor, 2, 4));
        floor.rank(2, 0);
        floor.beat(1);
        is("its own root again", -1, floor.holds(2, 3));
        floor.beat(1);
        is("the other end is the root port then", 4, floor.holds(1, 3));
    }

    // ---- roles, and which ports are open

    private static final String DESIGNATED = "A port with a wire is designated, if nothing came by it in the latest "
            + "beat (as its other end is shut, too), or what the switch holds (without adding) is better than what "
            + "came by it (root, cost, then name of the switch that tells, then port).";

    private static void designatedIfNothingCame() {
        Doc.terms(DESIGNATED);
        SwitchFloor floor = Floors.row(2, 1);
        floor.beat(4);
        is("a root came", 1, role(floor, 1, 2));
        floor.shut(0, 1);
        is("the role of the latest beat", 1, role(floor, 1, 2));
        floor.beat(1);
        is("nothing came", 2, role(floor, 1, 2));
        is("it stays open", 1, open(floor, 1, 2));
        is("its other end, being shut, has none", 0, role(floor, 0, 1));
        SwitchFloor bare = new SwitchFloor();
        bare.house(0, 0, 0);
        bare.beat(1);
        is("nothing came, but it has a house", 0, role(bare, 0, 0));
        is("nothing came, but it has no wire", 0, role(bare, 0, 1));
    }

    /** Switch 1 and 2 by the costs to 0, with a dear wire between their ports 4: answers the roles of both ends. */
    private static int between(int costOf1, int costOf2, int rankOf2) {
        SwitchFloor floor = new SwitchFloor();
        floor.rank(0, 0);
        floor.rank(2, rankOf2);
        floor.wire(0, 1, 1, 0, costOf1);
        floor.wire(0, 2, 2, 0, costOf2);
        floor.wire(1, 4, 2, 4, 50);
        floor.beat(3);
        return 10 * role(floor, 1, 4) + role(floor, 2, 4);
    }

    private static void designatedByCostAndName() {
        Doc.terms(DESIGNATED);
        SwitchFloor floor = new SwitchFloor();
        floor.wire(0, 0, 1, 0, 100);
        floor.wire(1, 1, 2, 1, 1);
        floor.beat(1);
        is("a better root, though it is dearer than what came", 2, role(floor, 1, 1));
        is("lesser by 1 at the one", 23, between(9, 10, 8));
        is("lesser by 1 at the other, though its name is worse", 32, between(10, 9, 8));
        is("like costs: the lesser number", 23, between(9, 9, 8));
        is("like costs: the lesser rank", 32, between(9, 9, 7));
        is("like costs: the greater rank", 23, between(9, 9, 9));
        is("lesser by 1 at the one, though its name is worse", 23, between(9, 10, 7));
    }

    private static void neverOpen() {
        Doc.terms("It is to be open if it is the root port or designated, or has a house; "
                + "a port without either is never open.");
        SwitchFloor floor = Floors.row(2, 1);
        floor.wire(0, 3, 1, 3, 1);
        floor.house(0, 0, 0);
        floor.beat(3);
        is("the root port", 1, open(floor, 1, 2));
        is("a designated one", 1, open(floor, 0, 3));
        is("one with a house", 1, open(floor, 0, 0));
        is("one that is neither", 0, open(floor, 1, 3));
        floor.shut(4, 0);
        floor.shut(4, 0);
        floor.free(0, 0);
        floor.free(0, 1);
        floor.beat(30);
        is("a bare one that was shut once", 0, open(floor, 4, 0));
        is("one that had a house", 0, open(floor, 0, 0));
        is("one that had a wire", 0, open(floor, 0, 1) + open(floor, 1, 2));
        is("one that was always bare", 0, open(floor, 5, 4));
    }

    private static final String WAITS = "it is open at the end of the second beat behind that in which this came about, "
            + "if it is to be open in each";

    private static void waitsForTheSecondBeat() {
        Doc.terms(WAITS);
        SwitchFloor floor = Floors.row(2, 1);
        int[] due = {0, 0, 1, 1};
        for (int beat = 0; beat < due.length; beat++) {
            floor.beat(1);
            is("designated, beat " + (beat + 1), due[beat], open(floor, 0, 1));
            is("root port, beat " + (beat + 1), due[beat], open(floor, 1, 2));
        }
        SwitchFloor changing = Floors.row(2, 1);
        changing.beat(1);
        is("the root port of the first beat", 1, role(changing, 1, 2));
        changing.rank(1, 0);
        changing.beat(1);
        is("designated in the second", 2, role(changing, 1, 2));
        changing.beat(1);
        is("to be open in each, whatever its role", 1, open(changing, 1, 2));
        is("its other end, too", 1, open(changing, 0, 1));
    }

    /** Two wires from 0 to 1, the second of which is the root port of 1 only while the first is shut. */
    private static SwitchFloor spareWire() {
        SwitchFloor floor = new SwitchFloor();
        floor.wire(0, 0, 1, 0, 1);
        floor.wire(0, 1, 1, 1, 1);
        floor.house(0, 4, 0);
        floor.house(1, 4, 1);
        floor.beat(4);
        return floor;
    }

    private static void waitsAnew() {
        Doc.terms(WAITS);
        for (int waited = 1; waited <= 2; waited++) {
            SwitchFloor floor = spareWire();
            floor.shut(0, 0);
            floor.beat(waited);
            is("it waits", 1, role(floor, 1, 1));
            floor.shut(0, 0);
            floor.beat(1);
            is("not to be open behind " + waited, 3, role(floor, 1, 1));
            is("closed in that", 0, open(floor, 1, 1));
            floor.shut(0, 0);
            floor.beat(2);
            is("anew behind " + waited, 0, open(floor, 1, 1));
            floor.beat(1);
            is("open behind " + waited + " and three", 1, open(floor, 1, 1));
        }
    }

    private static void houseIsOpenAtOnce() {
        Doc.terms("one with a house is open as it is put there");
        SwitchFloor floor = Floors.houses(2);
        is("the first, ahead of any beat", 1, open(floor, 0, 0));
        is("a frame goes through both", 1, floor.send(0, 1, 0, 0));
        floor.free(0, 0);
        is("not without it", 0, open(floor, 0, 0));
        floor.house(0, 0, 0);
        is("anew", 1, open(floor, 0, 0));
    }

    private static void closedAtOnce() {
        Doc.terms("A port that is not to be open any more is closed at once.");
        SwitchFloor floor = spareWire();
        floor.shut(0, 0);
        floor.beat(3);
        is("open while the first is shut", 1, open(floor, 1, 1));
        floor.shut(0, 0);
        is("ahead of the beat", 1, open(floor, 1, 1));
        floor.beat(1);
        is("in the first beat", 0, open(floor, 1, 1));
    }

    private static void newWireIsClosed() {
        Doc.terms("a port whose wire was put since is closed until then");
        SwitchFloor floor = Floors.row(2, 1);
        floor.house(0, 0, 0);
        floor.beat(3);
        floor.free(0, 0);
        floor.wire(0, 0, 2, 0, 1);
        is("where a house was", 0, open(floor, 0, 0) + open(floor, 2, 0));
        floor.free(0, 1);
        floor.wire(0, 1, 1, 2, 1);
        is("where another wire was open", 0, open(floor, 0, 1) + open(floor, 1, 2));
        is("it has no role", 0, role(floor, 0, 1) + role(floor, 1, 2));
        floor.beat(1);
        is("it has a role", 3, role(floor, 0, 1) + role(floor, 1, 2));
        for (int waited = 1; waited <= 3; waited++) {
            SwitchFloor anew = Floors.row(2, 1);
            anew.beat(waited);
            anew.free(0, 1);
            anew.wire(0, 1, 1, 2, 1);
            anew.beat(2);
            is("put anew behind " + waited + ", it waits anew", 0, open(anew, 0, 1) + open(anew, 1, 2));
            anew.beat(1);
            is("and is open behind three more", 2, open(anew, 0, 1) + open(anew, 1, 2));
        }
    }

    // ---- guards

    private static final String ROOT_GUARD = "Root guard at a port: what came by it does not count, if it has a better "
            + "root than the switch would hold by itself and the ports without root guard alone; "
            + "the port is not to be open then.";

    private static void rootGuardAndBetterRoots() {
        Doc.terms(ROOT_GUARD);
        SwitchFloor floor = new SwitchFloor();
        floor.wire(0, 0, 2, 0, 1);
        floor.wire(1, 0, 2, 1, 1);
        floor.guard(2, 0, 1);
        floor.beat(4);
        is("better than by the other port: does not count", 1, floor.holds(2, 0));
        is("not to be open", 3, role(floor, 2, 0));
        is("closed", 0, open(floor, 2, 0));
        is("but not shut", 0, isShut(floor, 2, 0));
        SwitchFloor alone = Floors.row(2, 1);
        alone.guard(1, 2, 1);
        alone.rank(0, 9);
        alone.beat(3);
        is("worse than by itself", 1, open(alone, 1, 2));
        alone.rank(0, 8);
        alone.beat(2);
        is("better than by itself, by its number", 1, alone.holds(1, 0));
        is("closed at once", 0, open(alone, 1, 2));
        is("at its other end nothing changes", 1, open(alone, 0, 1));
    }

    private static void rootGuardAndLikeRoots() {
        Doc.terms(ROOT_GUARD);
        SwitchFloor floor = new SwitchFloor();
        floor.wire(0, 0, 2, 0, 1);
        floor.wire(0, 1, 1, 1, 1);
        floor.wire(1, 0, 2, 1, 1);
        floor.guard(2, 0, 1);
        floor.beat(5);
        is("a like root counts, with its lesser cost", 1, floor.holds(2, 1));
        is("it is the root port", 0, floor.holds(2, 3));
        is("and open", 1, open(floor, 2, 0));
        SwitchFloor own = Floors.row(2, 1);
        own.guard(0, 1, 1);
        own.beat(5);
        is("told of itself, a like root", 2, role(own, 0, 1));
        is("it is open", 1, open(own, 0, 1));
        SwitchFloor worse = new SwitchFloor();
        worse.wire(0, 0, 2, 0, 1);
        worse.wire(1, 0, 2, 1, 1);
        worse.guard(2, 1, 1);
        worse.beat(3);
        is("better than its own, but not than by the other port", 2, role(worse, 2, 1));
        is("so it is open", 1, open(worse, 2, 1));
    }

    private static void houseGuard() {
        Doc.terms("House guard at a port: if something comes by it, that does not count, and it is shut, as by hand.");
        SwitchFloor floor = Floors.row(2, 1);
        floor.house(0, 0, 0);
        floor.guard(0, 0, 2);
        floor.guard(1, 2, 2);
        floor.guard(4, 4, 2);
        floor.shut(0, 1);
        floor.beat(1);
        is("nothing comes by a wire whose other end is shut", 0, isShut(floor, 1, 2));
        is("nor from a house", 0, isShut(floor, 0, 0));
        is("nor without a wire", 0, isShut(floor, 4, 4));
        floor.shut(0, 1);
        floor.beat(1);
        is("something comes", 1, isShut(floor, 1, 2));
        is("and does not count", 1, floor.holds(1, 0));
        floor.beat(30);
        is("as by hand, without an end", 1, isShut(floor, 1, 2));
        SwitchFloor worse = Floors.row(2, 1);
        worse.guard(0, 1, 2);
        worse.beat(1);
        is("also if it is a worse root that comes", 1, isShut(worse, 0, 1));
    }

    // ---- tables that are emptied

    private static final String EMPTIED = "When a port with a wire opens or closes by its role (not by being shut), the "
            + "tables of its switch, and of all switches that can be reached from it by wires neither end of which is "
            + "shut, are emptied.";

    private static void emptiedByRole() {
        Doc.terms(EMPTIED);
        SwitchFloor floor = spareWire();
        floor.send(0, 10, 0, 0);
        floor.send(1, 10, 0, 0);
        floor.shut(0, 0);
        floor.beat(2);
        is("what is left while the other one waits", 1, floor.holds(0, 4));
        floor.beat(1);
        is("it opens by its role", 0, floor.holds(0, 4) + floor.holds(1, 4));
        floor.send(0, 10, 0, 0);
        floor.send(1, 10, 0, 0);
        is("heard by both", 4, floor.holds(0, 4) + floor.holds(1, 4));
        floor.shut(0, 0);
        floor.beat(1);
        is("it closes by its role", 0, floor.holds(0, 4) + floor.holds(1, 4));
    }

    private static void notEmptiedByShutting() {
        Doc.terms(EMPTIED);
        SwitchFloor floor = Floors.housedRow(3);
        floor.send(0, 10, 0, 0);
        floor.send(2, 10, 0, 0);
        floor.shut(2, 2);
        floor.beat(1);
        is("shut by hand: what is not heard by it stays", 5, entries(floor));
        floor.guard(1, 1, 2);
        floor.shut(2, 2);
        floor.beat(1);
        is("shut by a guard", 1, isShut(floor, 1, 1));
        is("what is not heard by that stays", 4, entries(floor));
        floor.free(2, 0);
        floor.house(2, 0, 2);
        floor.beat(1);
        is("a port with a house opens: nothing else goes", 3, entries(floor));
        floor.free(1, 2);
        floor.beat(1);
        is("a wire is taken: what is not heard by it stays", 1, entries(floor));
    }

    private static int entries(SwitchFloor floor) {
        int sum = 0;
        for (int one = 0; one < 6; one++) {
            sum += floor.holds(one, 4);
        }
        return sum;
    }

    /** A port of 0 opens; answers what 0 to 3 hold then, if 1 is cut from 2 as told, and 2 from 3 by a guard's closing. */
    private static int emptied(int shutSwitch, int shutPort) {
        SwitchFloor floor = Floors.housedRow(4);
        floor.guard(3, 2, 1);
        floor.beat(1);
        if (shutSwitch >= 0) {
            floor.shut(shutSwitch, shutPort);
        }
        floor.wire(0, 4, 5, 4, 1);
        floor.beat(2);
        for (int house = 0; house < 4; house++) {
            floor.send(house, 9, 0, 0);
        }
        is("3 is closed by its guard", 0, open(floor, 3, 2));
        is("and not shut but by hand", shutSwitch == 3 ? 1 : 0, isShut(floor, 3, 2));
        int ahead = entryMask(floor);
        floor.beat(1);
        is("all have heard somebody ahead of it", 15, ahead);
        is("the port opened", 1, open(floor, 0, 4));
        return entryMask(floor);
    }

    private static int entryMask(SwitchFloor floor) {
        int mask = 0;
        for (int one = 0; one < 4; one++) {
            mask |= floor.holds(one, 4) > 0 ? 1 << one : 0;
        }
        return mask;
    }

    private static void emptiedAsFarAsReached() {
        Doc.terms(EMPTIED);
        is("all, also by a wire with a closed end that is not shut", 0, emptied(-1, -1));
        is("not by a wire whose near end is shut", 12, emptied(1, 1));
        is("not by a wire whose far end is shut", 12, emptied(2, 2));
        is("its own switch alone", 14, emptied(0, 1));
        is("all but the last", 8, emptied(3, 2));
    }

    // ---- the order within a beat

    private static final String ORDER = "A beat goes so: what is told; house guards; what each holds; which ports open "
            + "and close, and the tables that are emptied by that; entries that are over; storms that are over.";

    private static void orderOfTellingAndGuards() {
        Doc.terms(ORDER);
        SwitchFloor floor = Floors.row(2, 1);
        floor.guard(0, 1, 2);
        floor.beat(1);
        is("shut by its guard", 1, isShut(floor, 0, 1));
        is("its other end was told ahead of that", 0, floor.holds(1, 0));
        is("and has its role by that", 1, role(floor, 1, 2));
        floor.beat(1);
        is("but not in the next beat", 1, floor.holds(1, 0));
        SwitchFloor both = Floors.row(2, 1);
        both.guard(0, 1, 2);
        both.guard(1, 2, 2);
        both.beat(1);
        is("told by both ends, both are shut", 2, isShut(both, 0, 1) + isShut(both, 1, 2));
        is("guards go ahead of what is held", 1, both.holds(1, 0));
    }

    private static void guardsAheadOfTables() {
        Doc.terms(ORDER);
        SwitchFloor floor = Floors.housedRow(3);
        floor.wire(0, 3, 3, 3, 1);
        floor.beat(2);
        floor.send(2, 10, 0, 0);
        floor.guard(2, 2, 2);
        floor.beat(1);
        is("the wire's port opened", 1, open(floor, 0, 3));
        is("in the beat in which a guard shut 2's", 1, isShut(floor, 2, 2));
        is("emptied this side of it", 0, floor.holds(0, 4) + floor.holds(1, 4));
        is("kept behind it", 0, floor.table(2, 1, 2));
    }

    private static void tablesAheadOfStorms() {
        Doc.terms(ORDER);
        SwitchFloor floor = Floors.housedRow(3);
        floor.house(2, 3, 8);
        floor.limit(1);
        floor.send(2, 10, 0, 0);
        floor.send(8, 10, 0, 0);
        is("a storm at 1, from 2", 1, isShut(floor, 1, 1));
        floor.beat(2);
        floor.send(1, 10, 0, 0);
        floor.wire(0, 4, 3, 4, 1);
        floor.beat(2);
        is("1 has heard its house", 1, floor.holds(1, 4));
        floor.beat(1);
        is("the wire's port opened", 1, open(floor, 0, 4));
        is("the storm ended", 0, isShut(floor, 1, 1));
        is("emptied this side of it", 0, floor.holds(1, 4));
        is("kept behind it", 2, floor.holds(2, 4));
    }

    private static void stormsBehindAll() {
        Doc.terms(ORDER);
        SwitchFloor floor = Floors.housedRow(2);
        floor.limit(1);
        floor.house(0, 3, 3);
        floor.send(0, 10, 0, 0);
        floor.send(3, 10, 0, 0);
        is("a storm at 1, from 0", 1, isShut(floor, 1, 2));
        floor.guard(1, 2, 2);
        floor.beat(5);
        is("it ended", 0, isShut(floor, 1, 2));
        is("nothing was told by it in that beat", 1, floor.holds(1, 0));
        is("it has no role of that beat", 0, role(floor, 1, 2));
        floor.beat(1);
        is("what is told in the next beat comes to its guard", 1, isShut(floor, 1, 2));
    }
}
