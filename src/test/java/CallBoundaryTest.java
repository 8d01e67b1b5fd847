/**
 * A test for each sentence of the promises that names a boundary case of what a call takes, does, or answers. What
 * calls refuse is RefusedTest's.
 */
public final class CallBoundaryTest {
    public static void main(String[] args) {
        atMost512Calls();
        constants();
        newObject();
        wiresFromNoneToFull();
        freedOnes();
        bothPortsAreClosed();
        housesFromNoneToFull();
        ranksThatWere();
        shutOrNotAnyMore();
        endsOtherShutting();
        opensOrWaits();
        guardsThatWere();
        plainOfEachLane();
        trunkOfEachSet();
        nativeOneNeedNotBeOfTheLanes();
        limitsThatWere();
        beatsThatHavePassed();
        thirtyBeatsAtOnce();
        framesFromAndTo();
        framesWithTags();
        framesThatAreNotLetIn();
        heldNumbers();
        heldHopsAndEntries();
        portNumbers();
        rolesSince();
        tablesFromFirstToLast();
        gotOrOverheard();
        restOfHoldsAndOpenPorts();
        restOfRootAlone();
        restOfCostAlone();
        restOfHopsAlone();
        restOfRolesAndWaiting();
        restOfOneWaitingPort();
        restBehindEachSwitch();
        restIsAskedAlone();
        foundFromLeastToGreatest();
        foundByEndsThatAreNotShut();
        walksByCount();
        walksThatEndNowhere();
        walksOfTwelveSwitches();
        walksBack();
        walksLearnNothing();
        Check.end();
    }

    private static void is(String what, long due, long got) {
        Check.is(what, due, got);
    }

    // ---- ahead of the promises

    private static void atMost512Calls() {
        Doc.terms("An object is used for at most 512 calls after it has been made");
        SwitchFloor floor = Floors.houses(2);
        floor.send(1, 10, 0, 0);
        for (int call = 4; call <= 511; call++) {
            floor.send(0, 1, 0, 0);
        }
        is("the last call", 508, floor.got(1, false));
        SwitchFloor beats = new SwitchFloor();
        for (int call = 1; call <= 511; call++) {
            beats.beat(30);
        }
        is("the last beats", 512 * 30, beats.beat(30));
        SwitchFloor frames = Floors.openRound();
        frames.limit(100);
        for (int call = 15; call <= 511; call++) {
            frames.send(0, 10, 0, 0);
        }
        is("shut by storms behind all these", 1, frames.port(0, 0, 2));
    }

    private static void constants() {
        Doc.terms("NONE = -1: None.");
        is("NONE", -1, SwitchFloor.NONE);
        Doc.terms("ALL = 10: All houses.");
        is("ALL", 10, SwitchFloor.ALL);
        is("to all", 4, Floors.houses(5).send(4, SwitchFloor.ALL, 0, 0));
    }

    private static void newObject() {
        Doc.promise(1, "Creates a floor without wires and houses, at the beat 0.");
        for (int spot = 0; spot < 30; spot++) {
            int one = spot / 5;
            int port = spot % 5;
            Check.gives("nothing at " + one + port, Check.BAD_STATE, () -> new SwitchFloor().free(one, port));
        }
        for (int house = 0; house < 10; house++) {
            int from = house;
            Check.gives("no house " + from, Check.BAD_STATE, () -> new SwitchFloor().send(from, 10, 0, 0));
        }
        is("the first wire", 1, new SwitchFloor().wire(0, 0, 1, 0, 1));
        is("the first house", 1, new SwitchFloor().house(0, 0, 0));
        is("the first beat", 1, new SwitchFloor().beat(1));
        is("one object is apart from another", 1, new SwitchFloor().wire(0, 0, 1, 0, 1));
    }

    // ---- wires, houses, ranks

    private static void wiresFromNoneToFull() {
        Doc.promise(2, "Returns how many wires there are then.");
        SwitchFloor floor = new SwitchFloor();
        int wires = 0;
        for (int one = 0; one < 6; one++) {
            for (int other = one + 1; other < 6; other++) {
                wires++;
                is("one more", wires, floor.wire(one, other - 1, other, one, 1));
            }
        }
        is("full", 15, wires);
        Check.gives("no more wire", Check.BAD_STATE, () -> floor.wire(0, 0, 1, 0, 1));
        Check.gives("no house", Check.BAD_STATE, () -> floor.house(5, 4, 0));
        for (int port = 0; port < 5; port++) {
            floor.free(0, port);
        }
        is("five less, and one more", 11, floor.wire(1, 0, 0, 4, 1));
        SwitchFloor last = new SwitchFloor();
        last.wire(2, 0, 3, 0, 1);
        last.free(3, 0);
        is("empty, and one more", 1, last.wire(2, 0, 3, 0, 1));
    }

    private static void freedOnes() {
        Doc.promise(3, "Returns its house, or -1 if it had a wire.");
        SwitchFloor floor = Floors.row(2, 1);
        floor.house(0, 0, 0);
        floor.house(5, 4, 9);
        is("the least house", 0, floor.free(0, 0));
        is("the greatest house", 9, floor.free(5, 4));
        is("a wire", -1, floor.free(0, 1));
        Check.gives("its other end has none then", Check.BAD_STATE, () -> floor.free(1, 2));
        floor.wire(0, 1, 1, 2, 1);
        is("a wire from its other end", -1, floor.free(1, 2));
        Check.gives("neither then", Check.BAD_STATE, () -> floor.free(0, 1));
    }

    private static void bothPortsAreClosed() {
        Doc.promise(3, "Takes the wire or house of a port away; both ports of a wire are closed then.");
        for (int end = 0; end < 2; end++) {
            SwitchFloor floor = Floors.housedRow(2);
            is("both open", 2, floor.port(0, 1, 0) + floor.port(1, 2, 0));
            floor.free(end, end == 0 ? 1 : 2);
            is("both closed, taken at " + end, 0, floor.port(0, 1, 0) + floor.port(1, 2, 0));
            floor.free(end, 0);
            is("a house's, too", 0, floor.port(end, 0, 0));
            is("the other house's stays", 1, floor.port(1 - end, 0, 0));
        }
    }

    private static void housesFromNoneToFull() {
        Doc.promise(4, "Returns how many houses are at ports then.");
        SwitchFloor floor = new SwitchFloor();
        for (int house = 0; house < 10; house++) {
            is("one more", house + 1, floor.house(house / 5, house % 5, house));
        }
        for (int house = 0; house < 10; house++) {
            int again = house;
            Check.gives("no second " + house, Check.BAD_STATE, () -> floor.house(5, 4, again));
        }
        floor.free(0, 0);
        is("one less, and one more", 10, floor.house(5, 4, 0));
        for (int port = 0; port < 5; port++) {
            floor.free(1, port);
        }
        is("five less, and one more", 6, floor.house(1, 4, 5));
        SwitchFloor last = Floors.houses(1);
        last.free(0, 0);
        is("empty, and one more", 1, last.house(0, 0, 9));
    }

    private static void ranksThatWere() {
        Doc.promise(5, "Returns what it was.");
        SwitchFloor floor = new SwitchFloor();
        is("at first", 8, floor.rank(0, 0));
        is("the least", 0, floor.rank(0, 15));
        is("the greatest", 15, floor.rank(0, 15));
        is("the same", 15, floor.rank(0, 8));
        is("each switch has its own", 8, floor.rank(5, 0));
    }

    // ---- shutting and guards

    private static final String SHUTS = "Shuts a port by hand, or not any more; then it is not shut by a guard or a "
            + "storm either. Shut, it is closed; a port with a house that is not shut any more is open, one with a wire "
            + "waits, as told.";

    private static void shutOrNotAnyMore() {
        Doc.promise(6, "Returns true if it is shut then.");
        SwitchFloor floor = Floors.row(2, 1);
        floor.house(0, 0, 0);
        int[][] ports = {{0, 0}, {0, 1}, {1, 2}, {5, 4}};
        for (int[] at : ports) {
            for (int time = 0; time < 4; time++) {
                boolean due = time % 2 == 0;
                Check.is("time " + time + " at " + at[0] + at[1], due, floor.shut(at[0], at[1]));
                is("as port tells", due ? 1 : 0, floor.port(at[0], at[1], 2));
            }
        }
    }

    private static void endsOtherShutting() {
        Doc.promise(6, SHUTS);
        SwitchFloor floor = Floors.housedRow(2);
        floor.limit(1);
        floor.send(0, 10, 0, 0);
        floor.send(0, 10, 0, 0);
        Check.is("not by a storm any more", false, floor.shut(0, 0));
        Check.is("but by hand", true, floor.shut(0, 0));
        floor.beat(5);
        is("the storm's end is forgotten", 1, floor.port(0, 0, 2));
        floor.guard(1, 2, 2);
        floor.beat(1);
        floor.guard(1, 2, 0);
        is("shut by a guard, also when that is gone", 1, floor.port(1, 2, 2));
        Check.is("not by a guard any more", false, floor.shut(1, 2));
        floor.beat(1);
        is("nor in the next beat", 0, floor.port(1, 2, 2));
    }

    private static void opensOrWaits() {
        Doc.promise(6, SHUTS);
        SwitchFloor floor = Floors.housedRow(2);
        floor.shut(0, 0);
        floor.shut(0, 1);
        is("closed at once", 0, floor.port(0, 0, 0) + floor.port(0, 1, 0));
        floor.shut(0, 0);
        floor.shut(0, 1);
        is("the house's is open at once", 1, floor.port(0, 0, 0));
        int[] due = {0, 0, 0, 1};
        for (int beat = 0; beat < due.length; beat++) {
            is("the wire's, beat " + beat, due[beat], floor.port(0, 1, 0));
            floor.beat(1);
        }
        for (int waited = 1; waited <= 3; waited++) {
            SwitchFloor anew = Floors.row(2, 1);
            anew.beat(waited);
            anew.shut(0, 1);
            anew.shut(0, 1);
            anew.beat(2);
            is("shut for no beat behind " + waited + ", it waits anew", 0, anew.port(0, 1, 0));
            anew.beat(1);
            is("and is open behind three more", 1, anew.port(0, 1, 0));
        }
        shutWithoutWire();
    }

    private static void shutWithoutWire() {
        SwitchFloor floor = new SwitchFloor();
        floor.shut(4, 4);
        is("a bare one stays closed", 0, floor.port(4, 4, 0));
        floor.house(4, 4, 9);
        is("also with a house, while it is shut", 0, floor.port(4, 4, 0));
        floor.free(4, 4);
        floor.shut(4, 4);
        is("and not shut, without one", 0, floor.port(4, 4, 0));
    }

    private static void guardsThatWere() {
        Doc.promise(7, "guard: 0 none, 1 a root guard, 2 a house guard");
        SwitchFloor floor = new SwitchFloor();
        int[] guards = {0, 1, 2, 2, 0, 2, 1, 0};
        int was = 0;
        for (int guard : guards) {
            is("what it was ahead of " + guard, was, floor.guard(5, 4, guard));
            was = guard;
        }
        is("each port has its own", 0, floor.guard(5, 3, 0) + floor.guard(4, 4, 0));
    }

    // ---- lanes, limit, beats

    private static void plainOfEachLane() {
        Doc.promise(8, "lane: 1 to 3");
        for (int lane = 1; lane <= 3; lane++) {
            SwitchFloor floor = new SwitchFloor();
            floor.house(5, 4, 0);
            floor.house(5, 0, 1);
            floor.plain(5, 4, lane);
            is("the other stays in lane 1", lane == 1 ? 1 : 0, floor.send(0, 1, 0, 0));
            is("heard in lane " + lane, 4, floor.table(5, lane, 0));
        }
    }

    private static void trunkOfEachSet() {
        Doc.promise(9, "lanes: 1 to 7: the lane 1 is the bit 0, and so on");
        for (int lanes = 1; lanes <= 7; lanes++) {
            SwitchFloor floor = Floors.houses(2);
            floor.trunk(0, 0, lanes, 1);
            floor.trunk(0, 1, 7, 1);
            int carried = floor.send(0, 1, 1, 0) + 2 * floor.send(0, 1, 2, 0) + 4 * floor.send(0, 1, 3, 0);
            is("lanes that come in", lanes, carried);
            carried = floor.send(1, 0, 1, 0) + 2 * floor.send(1, 0, 2, 0) + 4 * floor.send(1, 0, 3, 0);
            is("lanes that go out", lanes, carried);
        }
    }

    private static void nativeOneNeedNotBeOfTheLanes() {
        Doc.promise(9, "lane: 1 to 3: the native one; it need not be one of the lanes");
        for (int lane = 1; lane <= 3; lane++) {
            SwitchFloor floor = Floors.houses(2);
            floor.plain(0, 1, lane);
            floor.trunk(0, 0, 7 - (1 << (lane - 1)), lane);
            is("lane " + lane + " does not come in without a tag", 0, floor.send(0, 1, 0, 0));
            is("nor go out", 0, floor.send(1, 0, 0, 0));
            int other = lane % 3 + 1;
            floor.plain(0, 1, other);
            is("another one does, with its tag", 1, floor.send(0, 1, other, 0));
            floor.trunk(0, 0, 7, lane);
            floor.plain(0, 1, lane);
            is("nor does it when it is one of them", 1, floor.send(0, 1, 0, 0));
        }
    }

    private static void limitsThatWere() {
        Doc.promise(10, "limit: 1 to 100");
        SwitchFloor floor = new SwitchFloor();
        is("20 at first", 20, floor.limit(1));
        is("the least", 1, floor.limit(100));
        is("the greatest", 100, floor.limit(100));
        Check.gives("0", Check.BAD_ARGUMENT, () -> floor.limit(0));
        Check.gives("101", Check.BAD_ARGUMENT, () -> floor.limit(101));
        is("as it was", 100, floor.limit(20));
    }

    private static void beatsThatHavePassed() {
        Doc.promise(11, "beats: 1 to 30");
        SwitchFloor floor = new SwitchFloor();
        is("the least", 1, floor.beat(1));
        is("the greatest", 31, floor.beat(30));
        Check.gives("0", Check.BAD_ARGUMENT, () -> floor.beat(0));
        Check.gives("31", Check.BAD_ARGUMENT, () -> floor.beat(31));
        is("none by these", 32, floor.beat(1));
    }

    private static void thirtyBeatsAtOnce() {
        Doc.promise(11, "Lets beats pass.");
        for (int beats = 2; beats <= 30; beats++) {
            SwitchFloor atOnce = Floors.openRound();
            SwitchFloor oneByOne = Floors.openRound();
            atOnce.send(0, 10, 0, 0);
            oneByOne.send(0, 10, 0, 0);
            atOnce.beat(beats);
            for (int beat = 0; beat < beats; beat++) {
                oneByOne.beat(1);
            }
            Check.is(beats + " are as so many single ones", true, Dump.of(atOnce).equals(Dump.of(oneByOne)));
        }
    }

    // ---- frames

    private static void framesFromAndTo() {
        Doc.promise(12, "to: another house, or ALL");
        SwitchFloor floor = new SwitchFloor();
        floor.house(0, 0, 0);
        floor.house(0, 4, 9);
        is("from the least to the greatest", 1, floor.send(0, 9, 0, 0));
        is("from the greatest to the least", 1, floor.send(9, 0, 0, 0));
        is("to all", 1, floor.send(0, 10, 0, 0));
        is("to one at no port", 0, floor.send(0, 8, 0, 0));
        Check.gives("11", Check.OUT_OF_BOUNDS, () -> floor.send(0, 11, 0, 0));
        Check.gives("-1", Check.OUT_OF_BOUNDS, () -> floor.send(0, -1, 0, 0));
        Check.gives("to itself", Check.BAD_ARGUMENT, () -> floor.send(0, 0, 0, 0));
        Check.gives("from one at no port", Check.BAD_STATE, () -> floor.send(8, 0, 0, 0));
        Check.gives("from one at no port to itself", Check.BAD_ARGUMENT, () -> floor.send(8, 8, 0, 0));
        Check.gives("from ALL", Check.OUT_OF_BOUNDS, () -> floor.send(10, 0, 0, 0));
        SwitchFloor alone = Floors.houses(1);
        is("to all, though there is no other", 0, alone.send(0, 10, 0, 0));
    }

    private static void framesWithTags() {
        Doc.promise(12, "second: 1 to 3, or 0 for none; 0 without a first one");
        for (int tag = -1; tag <= 4; tag++) {
            for (int second = -1; second <= 4; second++) {
                SwitchFloor floor = Floors.houses(2);
                floor.trunk(0, 0, 7, 1);
                floor.trunk(0, 1, 7, 1);
                int first = tag;
                int next = second;
                boolean good = first >= 0 && first <= 3 && next >= 0 && next <= (first == 0 ? 0 : 3);
                Check.gives("tags " + tag + " and " + second, good ? 1 : Check.BAD_ARGUMENT,
                        () -> floor.send(0, 1, first, next));
            }
        }
    }

    private static void framesThatAreNotLetIn() {
        Doc.promise(12, "Returns how many times houses got it; 0 if it is not let in.");
        SwitchFloor floor = Floors.houses(5);
        is("by all four others", 4, floor.send(0, 10, 0, 0));
        is("by one", 1, floor.send(0, 4, 0, 0));
        is("not let in by its tag", 0, floor.send(0, 10, 2, 0));
        is("nobody gets it", 2, floor.got(4, false));
        is("nor overhears it", 1, floor.got(3, true));
        is("nor is it a flood", 2, floor.port(0, 0, 3));
        is("nor heard", -1, floor.table(0, 2, 0));
        floor.shut(0, 0);
        is("not let in by a closed port", 0, floor.send(0, 10, 0, 0));
        is("nor is that a flood", 2, floor.port(0, 0, 3));
    }

    // ---- what is asked

    private static void heldNumbers() {
        Doc.promise(13, "what: 0 its root, 1 the cost, 2 the hops, 3 its root port, -1 if it is its own root, "
                + "4 how many entries its table has");
        SwitchFloor floor = new SwitchFloor();
        floor.rank(5, 0);
        floor.wire(5, 3, 0, 4, 100);
        floor.house(0, 1, 1);
        floor.beat(3);
        floor.send(1, 10, 0, 0);
        int[] due = {5, 100, 1, 4, 1};
        int[] dueOfRoot = {5, 0, 0, -1, 1};
        for (int what = 0; what <= 4; what++) {
            is("what " + what, due[what], floor.holds(0, what));
            is("what " + what + " of the root", dueOfRoot[what], floor.holds(5, what));
        }
        Check.gives("what -1", Check.BAD_ARGUMENT, () -> floor.holds(0, -1));
        Check.gives("what 5", Check.BAD_ARGUMENT, () -> floor.holds(0, 5));
    }

    private static void heldHopsAndEntries() {
        Doc.promise(13, "Returns what a switch holds.");
        SwitchFloor floor = Floors.row(6, 100);
        floor.beat(5);
        is("the greatest cost of a way", 500, floor.holds(5, 1));
        is("by most hops", 5, floor.holds(5, 2));
        is("no entries", 0, floor.holds(5, 4));
        is("the last port is the third", 2, floor.holds(5, 3));
    }

    private static void portNumbers() {
        Doc.promise(14, "3 how many floods came in by it since the beat");
        SwitchFloor floor = Floors.houses(2);
        for (int what = 0; what <= 3; what++) {
            is("of a house's port, what " + what, what == 0 ? 1 : 0, floor.port(0, 0, what));
            is("of the last port of all, what " + what, 0, floor.port(5, 4, what));
        }
        floor.send(0, 10, 0, 0);
        is("one flood", 1, floor.port(0, 0, 3));
        is("none at the other", 0, floor.port(0, 1, 3));
        floor.beat(1);
        is("none since the beat", 0, floor.port(0, 0, 3));
        Check.gives("what -1", Check.BAD_ARGUMENT, () -> floor.port(0, 0, -1));
        Check.gives("what 4", Check.BAD_ARGUMENT, () -> floor.port(0, 0, 4));
    }

    private static void rolesSince() {
        Doc.promise(14, "1 its role of the latest beat: 0 none (also since it was shut, or its wire was put), "
                + "1 the root port, 2 designated, 3 neither, though it has a wire");
        SwitchFloor floor = new SwitchFloor();
        floor.wire(0, 0, 1, 0, 1);
        floor.wire(0, 1, 1, 1, 1);
        is("none since the wire was put", 0, floor.port(0, 0, 1) + floor.port(1, 0, 1));
        floor.beat(1);
        is("the root port", 1, floor.port(1, 0, 1));
        is("designated", 2, floor.port(0, 0, 1));
        is("neither", 3, floor.port(1, 1, 1));
        floor.shut(1, 1);
        is("none since it was shut", 0, floor.port(1, 1, 1));
        floor.beat(1);
        is("none while it is shut", 0, floor.port(1, 1, 1));
        floor.shut(1, 1);
        is("none until a beat", 0, floor.port(1, 1, 1));
        floor.beat(1);
        is("neither again", 3, floor.port(1, 1, 1));
        floor.rank(1, 0);
        is("that of the latest beat", 3, floor.port(1, 1, 1));
        floor.beat(2);
        is("designated then", 2, floor.port(1, 1, 1));
        is("and neither at the other end", 3, floor.port(0, 1, 1));
        floor.free(0, 1);
        floor.house(0, 1, 0);
        floor.beat(1);
        is("none with a house", 0, floor.port(0, 1, 1));
    }

    private static void tablesFromFirstToLast() {
        Doc.promise(15, "Returns the port; -1 if there is none.");
        SwitchFloor floor = new SwitchFloor();
        floor.house(5, 0, 0);
        floor.house(5, 4, 9);
        floor.plain(5, 4, 3);
        is("none", -1, floor.table(5, 1, 0));
        floor.send(0, 10, 0, 0);
        floor.send(9, 10, 0, 0);
        is("the first port", 0, floor.table(5, 1, 0));
        is("the last port", 4, floor.table(5, 3, 9));
        is("none in another lane", -1, floor.table(5, 2, 0));
        is("none at another switch", -1, floor.table(0, 1, 0));
        is("none of another house", -1, floor.table(5, 1, 9));
    }

    private static void gotOrOverheard() {
        Doc.promise(16, "Returns how many frames a house got, or overheard.");
        SwitchFloor floor = new SwitchFloor();
        floor.house(0, 0, 0);
        floor.house(0, 1, 9);
        floor.house(0, 2, 5);
        floor.send(5, 0, 0, 0);
        floor.send(5, 10, 0, 0);
        is("the first got", 2, floor.got(0, false));
        is("the first overheard", 0, floor.got(0, true));
        is("the last got", 1, floor.got(9, false));
        is("the last overheard", 1, floor.got(9, true));
        is("the one that sent", 0, floor.got(5, false) + floor.got(5, true));
        is("one at no port", 0, floor.got(4, false) + floor.got(4, true));
        floor.beat(30);
        floor.free(0, 0);
        is("kept for good", 2, floor.got(0, false));
    }

    // ---- rest

    private static final String REST = "Returns whether another beat would leave as they are: what all switches hold, "
            + "which ports are open, and their roles; and no port would wait then.";

    private static void restOfHoldsAndOpenPorts() {
        Doc.promise(17, REST);
        Check.is("a new floor", true, new SwitchFloor().isAtRest());
        SwitchFloor roots = Floors.row(3, 1);
        roots.beat(5);
        Check.is("all as they were", true, roots.isAtRest());
        roots.shut(0, 1);
        Check.is("1 would be its own root", false, roots.isAtRest());
        roots.beat(30);
        Check.is("with a port shut", true, roots.isAtRest());
        SwitchFloor open = Floors.houses(2);
        Check.is("houses alone", true, open.isAtRest());
        open.limit(1);
        open.send(0, 10, 0, 0);
        open.send(0, 10, 0, 0);
        for (int beat = 0; beat < 4; beat++) {
            Check.is("in a storm, beat " + beat, true, open.isAtRest());
            open.beat(1);
        }
        Check.is("a storm's end would open a port", false, open.isAtRest());
        open.beat(1);
        Check.is("it did", true, open.isAtRest());
    }

    /** All ports open: the next beat would change one thing that one switch holds, and nothing else. */
    private static void oneThingAlone(SwitchFloor floor, int one, int what, int was, int then) {
        is("held ahead of the beat", was, floor.holds(one, what));
        Check.is("one thing would change", false, floor.isAtRest());
        floor.beat(1);
        is("held behind it", then, floor.holds(one, what));
        Check.is("nothing would change any more", true, floor.isAtRest());
    }

    /** 3 and then 5 is the best, at a like cost and with like hops from 1; 2 hears of it from 1, and 0 last of all. */
    private static void restOfRootAlone() {
        Doc.promise(17, REST);
        SwitchFloor floor = new SwitchFloor();
        floor.wire(3, 0, 1, 0, 3);
        floor.wire(5, 0, 1, 1, 3);
        floor.wire(1, 2, 2, 0, 1);
        floor.wire(2, 1, 0, 0, 3);
        floor.rank(3, 7);
        floor.beat(10);
        floor.rank(5, 6);
        floor.beat(3);
        oneThingAlone(floor, 0, 0, 3, 5);
        is("cost as ahead", 7, floor.holds(0, 1));
        is("hops as ahead", 3, floor.holds(0, 2));
    }

    /** By a late wire 3 has a cheaper way over 5, by as many hops as that over 2; 4 hears of it, and 1 last of all. */
    private static void restOfCostAlone() {
        Doc.promise(17, REST);
        SwitchFloor floor = new SwitchFloor();
        floor.wire(0, 0, 2, 1, 2);
        floor.wire(2, 4, 3, 0, 3);
        floor.wire(3, 1, 4, 2, 1);
        floor.wire(4, 0, 1, 1, 3);
        floor.wire(5, 3, 3, 3, 2);
        floor.beat(10);
        floor.wire(0, 3, 5, 1, 1);
        floor.beat(3);
        oneThingAlone(floor, 1, 1, 9, 7);
        is("hops as ahead", 4, floor.holds(1, 2));
    }

    /** By a late wire 4 changes to a like cheap way with more hops, over ports all open; 5 hears of it a beat later. */
    private static void restOfHopsAlone() {
        Doc.promise(17, REST);
        SwitchFloor floor = new SwitchFloor();
        floor.wire(0, 0, 2, 0, 2);
        floor.wire(2, 1, 4, 1, 2);
        floor.wire(4, 2, 1, 0, 1);
        floor.wire(1, 1, 3, 0, 1);
        floor.wire(4, 3, 5, 0, 1);
        floor.beat(10);
        floor.wire(0, 1, 3, 1, 2);
        floor.beat(3);
        oneThingAlone(floor, 5, 2, 3, 4);
        is("cost as ahead", 5, floor.holds(5, 1));
    }

    private static void restOfRolesAndWaiting() {
        Doc.promise(17, REST);
        SwitchFloor floor = Floors.row(2, 1);
        boolean[] due = {false, false, false, true};
        for (int beat = 0; beat < due.length; beat++) {
            Check.is("a new wire, beat " + beat, due[beat], floor.isAtRest());
            floor.beat(1);
        }
        SwitchFloor asked = Floors.row(2, 1);
        Check.is("asked ahead of three beats", false, asked.isAtRest());
        asked.beat(3);
        Check.is("and behind them", true, asked.isAtRest());
        floor.wire(0, 3, 1, 3, 1);
        floor.beat(3);
        Check.is("with a spare wire", true, floor.isAtRest());
        floor.guard(1, 3, 2);
        Check.is("its role alone would change: 3 to 0", false, floor.isAtRest());
        floor.beat(1);
        is("it did", 0, floor.port(1, 3, 1));
        Check.is("shut by its guard", true, floor.isAtRest());
        floor.shut(1, 3);
        floor.guard(1, 3, 0);
        Check.is("its role alone would change: 0 to 3", false, floor.isAtRest());
        floor.beat(1);
        is("it did", 3, floor.port(1, 3, 1));
        Check.is("neither, without waiting", true, floor.isAtRest());
    }

    private static void restOfOneWaitingPort() {
        Doc.promise(17, REST);
        for (int spot = 0; spot < 30; spot++) {
            int other = (spot / 5 + 1) % 6;
            SwitchFloor floor = new SwitchFloor();
            floor.wire(spot / 5, spot % 5, other, 0, 1);
            floor.shut(other, 0);
            Check.is("it would begin to wait, " + spot, false, floor.isAtRest());
            floor.beat(1);
            Check.is("it would wait, and no other one, " + spot, false, floor.isAtRest());
            floor.beat(1);
            Check.is("it would open, " + spot, false, floor.isAtRest());
            floor.beat(1);
            Check.is("it is open, " + spot, true, floor.isAtRest());
        }
    }

    /** What one tells of a third switch is what the other one holds by. */
    private static void restBehindEachSwitch() {
        Doc.promise(17, REST);
        for (int one = 0; one < 6; one++) {
            int best = (one + 1) % 6;
            SwitchFloor floor = new SwitchFloor();
            floor.rank(best, 0);
            floor.wire(best, 0, one, 0, 1);
            floor.wire(one, 1, (one + 2) % 6, 0, 1);
            floor.beat(5);
            Check.is("told by " + one, true, floor.isAtRest());
        }
    }

    /** A floor with a storm, a guard about to shut a port, and a wire that waits. */
    private static SwitchFloor unrest(int asked) {
        SwitchFloor floor = Floors.housedRow(3);
        floor.limit(1);
        floor.send(0, 10, 0, 0);
        floor.send(0, 10, 0, 0);
        floor.wire(2, 3, 3, 3, 1);
        floor.beat(1);
        floor.guard(1, 2, 2);
        for (int time = 0; time < asked; time++) {
            Check.is("not at rest", false, floor.isAtRest());
        }
        return floor;
    }

    private static void restIsAskedAlone() {
        Doc.promise(17, REST);
        for (int view = 0; view < Views.COUNT; view++) {
            Check.is("asking changes nothing, view " + view, true,
                    Views.of(unrest(0), view).equals(Views.of(unrest(3), view)));
        }
    }

    // ---- found

    private static void foundFromLeastToGreatest() {
        Doc.promise(18, "Returns 1000 * the switch + the cost.");
        SwitchFloor floor = Floors.row(6, 100);
        is("0 itself", 0, floor.found(0));
        is("the farthest", 500, floor.found(5));
        floor.rank(5, 0);
        is("the farthest of all", 5500, floor.found(0));
        is("5 itself", 5000, floor.found(5));
        floor.wire(0, 3, 5, 3, 100);
        is("by one wire", 5100, floor.found(0));
        is("by two wires", 5200, floor.found(1));
        is("without wires", 4000, new SwitchFloor().found(4));
        SwitchFloor ways = Floors.row(3, 1);
        ways.wire(0, 3, 2, 3, 3);
        is("two wires of 1 are cheaper than one of 3", 2, ways.found(2));
        ways.wire(0, 4, 2, 4, 1);
        is("one of 1 is cheaper than these", 1, ways.found(2));
    }

    private static void foundByEndsThatAreNotShut() {
        Doc.promise(18, "Finds at once the best switch that can be reached from one by wires neither end of which is "
                + "shut, and what the cheapest way to it costs; guards and hops do not matter.");
        SwitchFloor floor = Floors.row(2, 7);
        is("at once", 7, floor.found(1));
        floor.shut(0, 1);
        is("its far end is shut", 1000, floor.found(1));
        floor.shut(1, 2);
        is("both are shut", 1000, floor.found(1));
        floor.shut(0, 1);
        is("its near end is shut", 1000, floor.found(1));
        floor.shut(1, 2);
        is("neither is shut", 7, floor.found(1));
        floor.guard(1, 2, 1);
        floor.beat(3);
        is("a root guard closes it", 0, floor.port(1, 2, 0));
        is("that does not matter", 7, floor.found(1));
        floor.guard(1, 2, 2);
        is("nor a house guard, while it has not shut", 7, floor.found(1));
        floor.beat(1);
        is("but when it has", 1000, floor.found(1));
    }

    // ---- walks

    private static void walksByCount() {
        Doc.promise(19, "Returns by how many switches");
        SwitchFloor floor = Floors.housedRow(6);
        floor.house(5, 3, 9);
        floor.send(9, 10, 0, 0);
        for (int from = 0; from < 6; from++) {
            is("from " + from, 6 - from, floor.walk(from, 9));
        }
        is("the other way it is not known", -1, floor.walk(9, 0));
    }

    private static final String NOWHERE = "-1 if a table has no entry, a port on the way is not open or does not let it "
            + "through, it ends at another house, or behind 12 switches.";

    /** That a walk ends at another house can't come about: entries with a port go when that loses its house. */
    private static void walksThatEndNowhere() {
        Doc.promise(19, NOWHERE);
        SwitchFloor floor = Floors.housedRow(3);
        is("no entry at the first", -1, floor.walk(0, 2));
        floor.plain(0, 1, 2);
        floor.send(2, 10, 0, 0);
        floor.plain(0, 1, 1);
        is("known at the second", 2, floor.walk(1, 2));
        is("but not at the first", -1, floor.walk(0, 2));
        floor.send(2, 10, 0, 0);
        is("known", 3, floor.walk(0, 2));
        floor.shut(0, 0);
        is("the first port is not open", -1, floor.walk(0, 2));
        floor.shut(0, 0);
        floor.shut(2, 2);
        is("a port by which it would come in is not open", -1, floor.walk(0, 2));
        floor.shut(2, 2);
        floor.beat(3);
        floor.send(2, 10, 0, 0);
        is("known anew", 3, floor.walk(0, 2));
        floor.trunk(0, 0, 6, 1);
        is("the first port does not let it in", -1, floor.walk(0, 2));
        floor.trunk(0, 0, 7, 1);
        floor.trunk(1, 1, 6, 1);
        is("a port does not let it out", -1, floor.walk(0, 2));
        floor.trunk(1, 1, 7, 1);
        floor.trunk(2, 2, 6, 1);
        is("a port does not let it in", -1, floor.walk(0, 2));
        floor.trunk(2, 2, 7, 1);
        floor.trunk(2, 0, 6, 1);
        is("the last port does not let it out", -1, floor.walk(0, 2));
        floor.trunk(2, 0, 7, 1);
        is("all do", 3, floor.walk(0, 2));
    }

    /** Twice round: lane 3 becomes 1 from switch 0 to 1, and lane 1 becomes 2 from switch 5 to 0. */
    private static void walksOfTwelveSwitches() {
        Doc.promise(19, NOWHERE);
        SwitchFloor floor = Floors.openRound();
        for (int one = 0; one < 6; one++) {
            floor.trunk(one, 1, 7, 1);
            floor.trunk(one, 2, 7, 1);
        }
        floor.trunk(0, 1, 7, 3);
        floor.trunk(0, 2, 7, 2);
        floor.trunk(5, 1, 5, 1);
        floor.house(0, 3, 9);
        floor.house(5, 3, 7);
        floor.house(5, 4, 8);
        floor.plain(0, 3, 3);
        floor.plain(5, 3, 2);
        floor.plain(5, 4, 3);
        floor.send(7, 10, 0, 0);
        is("lane 3 at 5 leads round", 1, floor.table(5, 3, 7));
        is("lane 1 at 5, too", 1, floor.table(5, 1, 7));
        is("lane 2 at 5 leads to the house", 3, floor.table(5, 2, 7));
        is("twelve switches", 12, floor.walk(9, 7));
        is("not thirteen", -1, floor.walk(8, 7));
        is("eleven", 11, floor.walk(1, 7));
    }

    /** House 7 moved from 1 to 0, where lane 1 knows it behind 1 still; back from there, lane 1 becomes 2. */
    private static void walksBack() {
        Doc.promise(19, "also back by the port by which it came in, if a table tells that; nothing is learned by that.");
        SwitchFloor floor = Floors.housedRow(2);
        floor.house(1, 3, 7);
        floor.send(7, 10, 0, 0);
        floor.free(1, 3);
        floor.house(0, 3, 7);
        floor.plain(0, 3, 2);
        floor.trunk(0, 1, 7, 2);
        floor.trunk(1, 2, 7, 1);
        floor.send(7, 10, 0, 0);
        is("0 knows it behind 1", 1, floor.table(0, 1, 7));
        is("1 knows it behind 0", 2, floor.table(1, 1, 7));
        is("0 knows it in another lane", 3, floor.table(0, 2, 7));
        is("to 1, back, and out", 3, floor.walk(0, 7));
        is("a frame does not go back", 0, floor.send(0, 7, 0, 0));
    }

    private static SwitchFloor known(int walks) {
        SwitchFloor floor = Floors.housedRow(2);
        floor.send(0, 10, 0, 0);
        floor.beat(4);
        for (int walk = 0; walk < walks; walk++) {
            is("a known way", 2, floor.walk(1, 0));
            is("an unknown one", -1, floor.walk(0, 1));
        }
        return floor;
    }

    private static void walksLearnNothing() {
        Doc.promise(19, "nothing is learned by that.");
        for (int view = 0; view < Views.COUNT; view++) {
            Check.is("as without a walk, view " + view, true,
                    Views.of(known(0), view).equals(Views.of(known(3), view)));
        }
        SwitchFloor floor = known(3);
        floor.beat(6);
        is("what was walked by is not heard by that", 0, floor.holds(0, 4) + floor.holds(1, 4));
    }
}
