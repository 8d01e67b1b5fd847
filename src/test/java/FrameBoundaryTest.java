/** A test for each sentence of the terms that names a boundary case of lanes, frames, tables, and storms. */
public final class FrameBoundaryTest {
    public static void main(String[] args) {
        lanesOneToThree();
        plainAtFirst();
        comesIntoPlain();
        comesIntoTrunk();
        goesOutOfPlain();
        goesOutOfTrunk();
        secondTagSlipsThrough();
        secondTagStaysBehind();
        fourHundredSteps();
        comesInByAnOpenPort();
        heardByThePortThen();
        eightEntries();
        knownOneMovesInFullTable();
        goesByTheTableAlone();
        floodsByRisingNumbers();
        twelveHops();
        getsOrOverhears();
        leftTagsDoNotMatter();
        tenBeats();
        entriesGoWithShutting();
        entriesGoWithHouseAndWire();
        stormAboveTheLimit();
        stormsOfEachPortSinceTheBeat();
        stormOfFiveBeats();
        stormAtWireWaits();
        Check.end();
    }

    private static void is(String what, long due, long got) {
        Check.is(what, due, got);
    }

    private static boolean has(int lanes, int lane) {
        return (lanes >> (lane - 1) & 1) == 1;
    }

    /** The lane in which a switch has heard a house; 0 if in none, and all of them, one behind the other, if in more. */
    private static int heardLanes(SwitchFloor floor, int one, int house) {
        int lanes = 0;
        for (int lane = 1; lane <= 3; lane++) {
            if (floor.table(one, lane, house) != SwitchFloor.NONE) {
                lanes = 10 * lanes + lane;
            }
        }
        return lanes;
    }

    // ---- lanes

    private static void lanesOneToThree() {
        Doc.terms("The lanes are 1 to 3.");
        SwitchFloor floor = Floors.houses(2);
        for (int lane = 1; lane <= 3; lane++) {
            floor.plain(0, 0, lane);
            is("lane " + lane + " is apart from the one ahead", lane == 1 ? 1 : 0, floor.send(0, 1, 0, 0));
            floor.plain(0, 1, lane);
            is("in lane " + lane, 1, floor.send(0, 1, 0, 0));
            is("heard in lane " + lane, 0, floor.table(0, lane, 0));
        }
        for (int lane = 0; lane <= 4; lane += 4) {
            int none = lane;
            Check.gives("no table of lane " + lane, Check.OUT_OF_BOUNDS, () -> floor.table(0, none, 0));
            Check.gives("no plain port of lane " + lane, Check.OUT_OF_BOUNDS, () -> {
                floor.plain(0, 0, none);
                return 0;
            });
            Check.gives("no native lane " + lane, Check.OUT_OF_BOUNDS, () -> {
                floor.trunk(0, 0, 7, none);
                return 0;
            });
        }
    }

    private static void plainAtFirst() {
        Doc.terms("A port is plain, of one lane, 1 at first, or a trunk, with a set of lanes, all at first, "
                + "and a native one, 1 at first.");
        for (int tag = 0; tag <= 3; tag++) {
            SwitchFloor floor = new SwitchFloor();
            floor.house(5, 4, 9);
            floor.house(5, 0, 0);
            floor.send(9, 10, tag, 0);
            is("a new port with the tag " + tag, tag <= 1 ? 1 : 0, heardLanes(floor, 5, 9));
        }
    }

    private static void comesIntoPlain() {
        Doc.terms("A frame that comes into a plain port must have no tag, or that of its lane (which is taken off); "
                + "it is of that lane then.");
        for (int lane = 1; lane <= 3; lane++) {
            for (int tag = 0; tag <= 3; tag++) {
                SwitchFloor floor = Floors.houses(2);
                floor.plain(0, 0, lane);
                floor.plain(0, 1, lane);
                boolean comesIn = tag == 0 || tag == lane;
                is("lane " + lane + ", tag " + tag, comesIn ? 1 : 0, floor.send(0, 1, tag, 0));
                is("of the lane " + lane + ", tag " + tag, comesIn ? lane : 0, heardLanes(floor, 0, 0));
            }
        }
    }

    private static void comesIntoTrunk() {
        Doc.terms("One that comes into a trunk is of the lane of its tag, which is taken off, or of the native one "
                + "without; it must be one of the trunk's.");
        for (int mix = 0; mix < 7 * 3 * 4; mix++) {
            int lanes = mix % 7 + 1;
            int own = mix / 7 % 3 + 1;
            int tag = mix / 21;
            SwitchFloor floor = Floors.houses(2);
            floor.trunk(0, 0, lanes, own);
            floor.trunk(0, 1, 7, 1);
            int lane = tag == 0 ? own : tag;
            String what = "lanes " + lanes + ", native " + own + ", tag " + tag;
            is(what, has(lanes, lane) ? 1 : 0, floor.send(0, 1, tag, 0));
            is(what + ", heard in", has(lanes, lane) ? lane : 0, heardLanes(floor, 0, 0));
        }
    }

    /** House 0 in the lane, and a wire to a trunk of 1 for which no tag means another lane. */
    private static SwitchFloor laneToWire(int lane, int otherLane) {
        SwitchFloor floor = Floors.row(2, 1);
        floor.house(0, 0, 0);
        floor.plain(0, 0, lane);
        floor.trunk(1, 2, 7, otherLane);
        floor.beat(3);
        return floor;
    }

    private static final String GOES_OUT = "A frame goes out of a plain port of its lane without a tag; out of a trunk "
            + "that has its lane with the tag of it, or, if it is the native one, without.";

    private static void goesOutOfPlain() {
        Doc.terms(GOES_OUT);
        for (int lane = 1; lane <= 3; lane++) {
            for (int out = 1; out <= 3; out++) {
                int otherLane = lane % 3 + 1;
                SwitchFloor floor = laneToWire(lane, otherLane);
                floor.plain(0, 1, out);
                floor.send(0, 10, 0, 0);
                is("lane " + lane + " out of " + out, lane == out ? otherLane : 0, heardLanes(floor, 1, 0));
            }
        }
    }

    private static void goesOutOfTrunk() {
        Doc.terms(GOES_OUT);
        for (int mix = 0; mix < 7 * 3 * 3; mix++) {
            int lanes = mix % 7 + 1;
            int own = mix / 7 % 3 + 1;
            int lane = mix / 21 + 1;
            int otherLane = lane % 3 + 1;
            SwitchFloor floor = laneToWire(lane, otherLane);
            floor.trunk(0, 1, lanes, own);
            floor.send(0, 10, 0, 0);
            int due = !has(lanes, lane) ? 0 : lane == own ? otherLane : lane;
            is("lane " + lane + " out of " + lanes + ", native " + own, due, heardLanes(floor, 1, 0));
        }
    }

    private static final String TWO_TAGS = "A frame that a house sends has up to two tags; when the first one is taken "
            + "off, the second one is left, and is what the next switch sees as its tag, if the frame goes out without "
            + "one.";

    /** Three switches, joined by trunks of all lanes, that of 0 with the native lane. */
    private static SwitchFloor trunks(int own) {
        SwitchFloor floor = Floors.row(3, 1);
        floor.house(0, 0, 0);
        floor.trunk(0, 0, 7, 1);
        floor.trunk(0, 1, 7, own);
        floor.trunk(1, 2, 7, 1);
        floor.beat(4);
        return floor;
    }

    private static void secondTagSlipsThrough() {
        Doc.terms(TWO_TAGS);
        for (int first = 1; first <= 3; first++) {
            for (int second = 0; second <= 3; second++) {
                SwitchFloor floor = trunks(first);
                floor.send(0, 10, first, second);
                String what = "tags " + first + " and " + second;
                is(what + " at the first", first, heardLanes(floor, 0, 0));
                is(what + " at the next", second == 0 ? 1 : second, heardLanes(floor, 1, 0));
            }
        }
        SwitchFloor floor = trunks(2);
        floor.trunk(1, 1, 7, 3);
        floor.trunk(2, 2, 7, 1);
        floor.send(0, 10, 2, 3);
        is("the second is taken off, too: none is left at the third", 1, heardLanes(floor, 2, 0));
    }

    private static void secondTagStaysBehind() {
        Doc.terms(TWO_TAGS);
        for (int second = 0; second <= 3; second++) {
            SwitchFloor floor = trunks(1);
            floor.trunk(1, 1, 7, 2);
            floor.trunk(2, 2, 7, 1);
            floor.send(0, 10, 2, second);
            is("it goes out with the first, " + second + " behind it", 2, heardLanes(floor, 1, 0));
            is(second + " is left where it goes out without", second == 0 ? 1 : second, heardLanes(floor, 2, 0));
        }
        SwitchFloor floor = trunks(1);
        floor.send(0, 10, 0, 0);
        is("without a tag nothing is left", 1, heardLanes(floor, 1, 0));
    }

    // ---- steps, tables, ways

    /** Rounds within rounds, all open in the third beat: a frame would take 730 steps if it were let. */
    private static void fourHundredSteps() {
        Doc.terms("It goes on by steps, at most 400 of them for a frame, first come, first gone");
        SwitchFloor floor = new SwitchFloor();
        floor.wire(5, 1, 3, 2, 49);
        floor.wire(4, 3, 5, 2, 3);
        floor.wire(1, 2, 0, 3, 51);
        floor.wire(1, 1, 2, 2, 3);
        floor.wire(3, 3, 1, 3, 19);
        floor.wire(5, 4, 2, 4, 1);
        floor.wire(5, 3, 3, 1, 40);
        for (int one = 0; one < 6; one++) {
            floor.house(one, 0, one);
        }
        floor.limit(100);
        floor.beat(3);
        int times = floor.send(0, 10, 0, 0);
        int floods = 0;
        for (int spot = 0; spot < 30; spot++) {
            floods += floor.port(spot / 5, spot % 5, 3);
        }
        is("each step of it is a flood: 400", 400, floods);
        is("all but the first give it to a house", 399, times);
    }

    private static void comesInByAnOpenPort() {
        Doc.terms("at a switch, it comes in by a port, which must be open, and let it in by its lane");
        SwitchFloor floor = Floors.housedRow(2);
        floor.shut(1, 2);
        floor.shut(1, 2);
        is("the port waits", 0, floor.port(1, 2, 0) + floor.port(1, 2, 2));
        is("not by a closed port", 0, floor.send(0, 10, 0, 0));
        is("not heard behind it", 0, heardLanes(floor, 1, 0));
        is("no flood behind it", 0, floor.port(1, 2, 3));
        floor.beat(3);
        is("by an open one", 1, floor.send(0, 10, 0, 0));
        floor.trunk(1, 2, 6, 1);
        is("not by one that does not let it in", 0, floor.send(0, 10, 0, 0));
        is("no flood by that", 1, floor.port(1, 2, 3));
        floor.shut(0, 0);
        is("not from a closed port", 0, floor.send(0, 10, 0, 0));
    }

    private static void heardByThePortThen() {
        Doc.terms("the house that sent it is heard there: the table of the switch has for the lane and this house "
                + "the port and the beat then");
        SwitchFloor floor = Floors.housedRow(2);
        is("not heard yet", -1, floor.table(0, 1, 0));
        floor.send(0, 9, 0, 0);
        is("by the port 0", 0, floor.table(0, 1, 0));
        is("at the other switch by the wire's", 2, floor.table(1, 1, 0));
        is("the house that it is to is not heard", 0, heardLanes(floor, 0, 9) + heardLanes(floor, 1, 1));
        floor.free(0, 0);
        floor.house(1, 4, 0);
        floor.send(0, 9, 0, 0);
        is("the port 4 in place of that", 4, floor.table(1, 1, 0));
        is("also where it is heard from afar", 1, floor.table(0, 1, 0));
        is("one entry each", 2, floor.holds(0, 4) + floor.holds(1, 4));
    }

    private static final String EIGHT = "a table has at most 8 entries (for all lanes); a new one is not taken when it "
            + "is full.";

    private static void eightEntries() {
        Doc.terms(EIGHT);
        SwitchFloor floor = Floors.houses(4);
        for (int house = 0; house < 4; house++) {
            floor.trunk(0, house, 7, 1);
        }
        for (int i = 0; i < 8; i++) {
            is("entries", i, floor.holds(0, 4));
            floor.send(i % 4, 10, i / 4 + 1, 0);
        }
        is("eight entries", 8, floor.holds(0, 4));
        is("the eighth was taken", 3, floor.table(0, 2, 3));
        is("the ninth is sent all the same", 3, floor.send(0, 10, 3, 0));
        is("but not taken", -1, floor.table(0, 3, 0));
        is("eight entries still", 8, floor.holds(0, 4));
        is("what is sent to it is a flood", 1, floor.send(1, 0, 3, 0));
        is("which the others overhear", 1, floor.got(2, true));
        floor.beat(5);
        floor.send(0, 1, 1, 0);
        floor.beat(5);
        is("one that it has is heard anew when it is full", 0, floor.table(0, 1, 0));
        is("the others are over", 1, floor.holds(0, 4));
        floor.send(0, 10, 3, 0);
        is("there is room again", 0, floor.table(0, 3, 0));
        floor.free(0, 0);
        is("both go with the house", 0, floor.holds(0, 4));
    }

    private static void knownOneMovesInFullTable() {
        Doc.terms(EIGHT);
        SwitchFloor floor = Floors.houses(3);
        floor.wire(0, 3, 1, 3, 1);
        floor.wire(0, 4, 2, 4, 1);
        floor.house(1, 0, 5);
        floor.house(1, 1, 6);
        floor.beat(4);
        for (int house = 0; house < 3; house++) {
            floor.trunk(0, house, 7, 1);
            floor.send(house, 10, 1, 0);
            floor.send(house, 10, 2, 0);
        }
        floor.send(5, 10, 0, 0);
        floor.send(6, 10, 0, 0);
        is("full", 8, floor.holds(0, 4));
        is("one of them by the port 3", 3, floor.table(0, 1, 5));
        floor.free(1, 0);
        floor.house(2, 0, 5);
        floor.send(5, 10, 0, 0);
        is("it moved to the port 4", 4, floor.table(0, 1, 5));
        is("full still", 8, floor.holds(0, 4));
        floor.send(2, 10, 3, 0);
        is("a known house in another lane is a new entry", -1, floor.table(0, 3, 2));
        floor.shut(0, 0);
        floor.send(2, 10, 3, 0);
        is("taken when there is room", 2, floor.table(0, 3, 2));
    }

    private static void goesByTheTableAlone() {
        Doc.terms("Then, if it is to a house that the table has for the lane, with a port that is open, it goes out by "
                + "that alone (not, if it is the one by which it came in); otherwise by all other open ports, "
                + "by rising numbers, as a flood.");
        SwitchFloor floor = Floors.housedRow(2);
        floor.house(0, 3, 3);
        floor.house(1, 3, 4);
        is("not heard: all others", 1, floor.send(0, 4, 0, 0));
        is("they overhear it", 2, floor.got(1, true) + floor.got(3, true));
        is("not back where it came in", 0, floor.got(0, true));
        is("a flood at both", 2, floor.port(0, 0, 3) + floor.port(1, 2, 3));
        floor.send(4, 10, 0, 0);
        is("heard: by that alone", 1, floor.send(0, 4, 0, 0));
        is("nobody else overhears it", 2, floor.got(1, true) + floor.got(3, true));
        is("no flood", 2, floor.port(0, 0, 3) + floor.port(1, 2, 3));
        floor.free(1, 3);
        floor.house(0, 4, 4);
        is("heard where it came in: not out again", 0, floor.send(1, 4, 0, 0));
        is("not to others either", 2, floor.got(1, true) + floor.got(3, true));
        is("no flood there", 1, floor.port(0, 1, 3));
        floor.plain(0, 0, 2);
        floor.plain(0, 3, 2);
        is("heard in another lane alone: a flood", 3, floor.send(0, 3, 0, 0) + floor.port(0, 0, 3));
    }

    private static void floodsByRisingNumbers() {
        Doc.terms("otherwise by all other open ports, by rising numbers, as a flood.");
        SwitchFloor floor = Floors.openRound();
        floor.send(0, 10, 0, 0);
        is("out by 1 first, so it comes round by 1 last", 1, floor.table(0, 1, 0));
        is("first gone, first round: half way it comes by 2 first", 1, floor.table(3, 1, 0));
    }

    /** Port 1 of 5 lets out what it does not let in, so that frames go round in one direction alone. */
    private static SwitchFloor oneWayRound() {
        SwitchFloor floor = Floors.openRound();
        floor.trunk(5, 1, 1, 2);
        return floor;
    }

    private static void twelveHops() {
        Doc.terms("which is a step of its own, at most 12 hops from the first switch.");
        SwitchFloor floor = oneWayRound();
        is("twelve hops, a house at each", 12, floor.send(0, 10, 0, 0));
        is("counted where it was sent, and round that twice", 3, floor.port(0, 0, 3) + floor.port(0, 2, 3));
        is("at the next one twice, not thrice", 2, floor.port(1, 2, 3));
        is("in both directions", 24, Floors.openRound().send(0, 10, 0, 0));
    }

    private static void getsOrOverhears() {
        Doc.terms("A house gets it if it is to that or to all, each time anew, also the one that sent it, "
                + "if it comes round to that; otherwise it overhears it.");
        SwitchFloor floor = oneWayRound();
        is("to all", 12, floor.send(0, 10, 0, 0));
        for (int house = 0; house < 6; house++) {
            is("house " + house + " gets it twice", 2, floor.got(house, false));
            is("and overhears none", 0, floor.got(house, true));
        }
        is("to one", 2, floor.send(0, 3, 0, 0));
        is("it gets it twice", 4, floor.got(3, false));
        is("and overhears none of it", 0, floor.got(3, true));
        is("another one overhears it twice", 2, floor.got(4, true));
        is("the one that sent it overhears it twice", 2, floor.got(0, true));
        is("to one at no port", 0, floor.send(0, 9, 0, 0));
        is("all overhear it", 4 + 4 + 2, floor.got(0, true) + floor.got(4, true) + floor.got(3, true));
    }

    private static void leftTagsDoNotMatter() {
        Doc.terms("(Tags that are left do not matter for houses.)");
        SwitchFloor floor = Floors.houses(3);
        floor.trunk(0, 2, 7, 3);
        is("a second one that is left at a plain port", 1, floor.send(0, 1, 1, 2));
        is("a tag of the lane at a trunk", 1, floor.send(0, 2, 1, 0));
        is("two at a trunk", 1, floor.send(0, 2, 1, 2));
        is("overheard all the same", 2, floor.got(1, true));
    }

    // ---- entries that go

    private static void tenBeats() {
        Doc.terms("An entry that was heard 10 beats ago, and not since, is gone at the end of a beat.");
        SwitchFloor floor = Floors.housedRow(2);
        floor.send(0, 1, 0, 0);
        floor.beat(5);
        floor.send(1, 10, 0, 0);
        floor.beat(4);
        is("nine beats", 2, floor.table(1, 1, 0));
        is("at its own, too", 0, floor.table(0, 1, 0));
        floor.beat(1);
        is("ten beats", -1, floor.table(1, 1, 0));
        is("at its own, too", -1, floor.table(0, 1, 0));
        is("heard later", 0, floor.table(1, 1, 1));
        is("entries", 1, floor.holds(1, 4));
        floor.beat(4);
        is("nine from then", 0, floor.table(1, 1, 1));
        floor.send(1, 10, 0, 0);
        floor.beat(9);
        is("heard anew, nine from that", 0, floor.table(1, 1, 1));
        floor.beat(1);
        is("ten from that", 0, floor.holds(1, 4));
        SwitchFloor first = Floors.houses(2);
        first.send(0, 10, 0, 0);
        first.beat(9);
        is("heard at the beat 0, at the end of the ninth", 0, first.table(0, 1, 0));
        first.beat(1);
        is("at the end of the tenth", -1, first.table(0, 1, 0));
    }

    private static final String GO_WITH = "When a port is shut, or loses its house or wire, entries with it go.";

    /** A row of two with two houses at each, all heard by all, 0 also in the lane 2. */
    private static SwitchFloor allHeard() {
        SwitchFloor floor = Floors.housedRow(2);
        floor.house(0, 3, 3);
        floor.house(1, 3, 4);
        floor.trunk(0, 0, 7, 1);
        floor.trunk(0, 1, 7, 1);
        floor.trunk(1, 2, 7, 1);
        floor.send(0, 10, 2, 0);
        floor.send(0, 10, 0, 0);
        floor.send(1, 10, 0, 0);
        floor.send(3, 10, 0, 0);
        floor.send(4, 10, 0, 0);
        return floor;
    }

    private static int entries(SwitchFloor floor) {
        return 10 * floor.holds(0, 4) + floor.holds(1, 4);
    }

    private static void entriesGoWithShutting() {
        Doc.terms(GO_WITH);
        SwitchFloor byHand = allHeard();
        is("all", 55, entries(byHand));
        byHand.shut(0, 0);
        is("by hand, a house's: both of its lanes, there alone", 35, entries(byHand));
        byHand.shut(1, 2);
        is("by hand, a wire's: all by it, not at its other end", 32, entries(byHand));
        byHand.shut(1, 2);
        is("they do not come back", 32, entries(byHand));
        SwitchFloor byGuard = allHeard();
        byGuard.guard(1, 2, 2);
        byGuard.beat(1);
        is("by a guard", 52, entries(byGuard));
        SwitchFloor byStorm = allHeard();
        byStorm.limit(1);
        byStorm.send(3, 9, 0, 0);
        is("by a storm, a house's", 45, entries(byStorm));
        byStorm.beat(1);
        byStorm.send(0, 10, 0, 0);
        byStorm.send(1, 10, 0, 0);
        byStorm.send(4, 10, 0, 0);
        is("by a storm, a wire's", 25, entries(byStorm));
    }

    private static void entriesGoWithHouseAndWire() {
        Doc.terms(GO_WITH);
        SwitchFloor floor = allHeard();
        floor.free(0, 0);
        is("a house: both of its lanes, there alone", 35, entries(floor));
        floor.free(0, 1);
        is("a wire: at both ends", 12, entries(floor));
        is("by the house's own port", 3, floor.table(0, 1, 3));
        is("not by the wire's", -1, floor.table(1, 1, 3));
        SwitchFloor other = allHeard();
        other.free(1, 2);
        is("a wire, taken at its other end", 32, entries(other));
    }

    // ---- storms

    private static final String STORM = "each switch counts for each port how many floods came in by it since the beat; "
            + "above a limit, 20 at first, the flood goes no further, and the port is shut for 5 beats: it is not shut "
            + "any more at the end of the fifth beat from then (behind all else in that: one with a wire waits from the "
            + "next beat on).";

    private static void floodsUpTo(SwitchFloor floor, int limit) {
        for (int i = 1; i <= limit; i++) {
            is("flood " + i + " of " + limit, 1, floor.send(0, 10, 0, 0));
        }
        is("counted", limit, floor.port(0, 0, 3));
        is("not shut at the limit " + limit, 0, floor.port(0, 0, 2));
        is("above it, it goes no further", 0, floor.send(0, 10, 0, 0));
        is("nor to the house", limit, floor.got(1, false));
        is("shut above the limit " + limit, 1, floor.port(0, 0, 2));
        is("counted, too", limit + 1, floor.port(0, 0, 3));
        is("closed", 0, floor.port(0, 0, 0));
    }

    private static void stormAboveTheLimit() {
        Doc.terms(STORM);
        floodsUpTo(Floors.houses(2), 20);
        int[] limits = {1, 2, 99, 100};
        for (int limit : limits) {
            SwitchFloor floor = Floors.houses(2);
            floor.limit(limit);
            floodsUpTo(floor, limit);
        }
        SwitchFloor lowered = Floors.houses(2);
        for (int i = 0; i < 3; i++) {
            lowered.send(0, 10, 0, 0);
        }
        lowered.limit(1);
        is("a lower limit does not shut by itself", 0, lowered.port(0, 0, 2));
        lowered.send(0, 10, 0, 0);
        is("but by the next flood", 1, lowered.port(0, 0, 2));
    }

    private static void stormsOfEachPortSinceTheBeat() {
        Doc.terms(STORM);
        SwitchFloor floor = Floors.houses(2);
        floor.limit(2);
        for (int i = 0; i < 4; i++) {
            is("each port on its own", 1, floor.send(i % 2, 10, 0, 0));
        }
        floor.beat(1);
        is("none since the beat", 0, floor.port(0, 0, 3) + floor.port(0, 1, 3));
        is("anew", 2, floor.send(0, 10, 0, 0) + floor.send(0, 10, 0, 0));
        for (int i = 0; i < 3; i++) {
            is("what goes by the table alone does not count", 1, floor.send(0, 1, 0, 0));
        }
        is("counted", 2, floor.port(0, 0, 3));
        is("not shut", 0, floor.port(0, 0, 2));
    }

    private static void stormOfFiveBeats() {
        Doc.terms(STORM);
        for (int ahead = 0; ahead <= 7; ahead += 7) {
            SwitchFloor floor = Floors.houses(2);
            floor.limit(1);
            if (ahead > 0) {
                floor.beat(ahead);
            }
            floor.send(0, 10, 0, 0);
            floor.send(0, 10, 0, 0);
            for (int beat = 1; beat <= 5; beat++) {
                is("shut ahead of beat " + beat + " from " + ahead, 1, floor.port(0, 0, 2));
                is("closed ahead of beat " + beat, 0, floor.port(0, 0, 0));
                floor.beat(1);
            }
            is("not shut at the end of the fifth from " + ahead, 0, floor.port(0, 0, 2));
            is("open then, as it has a house", 1, floor.port(0, 0, 0));
            is("frames go through", 1, floor.send(0, 10, 0, 0));
        }
    }

    private static void stormAtWireWaits() {
        Doc.terms(STORM);
        SwitchFloor floor = Floors.housedRow(2);
        floor.house(0, 3, 3);
        floor.limit(1);
        floor.send(0, 10, 0, 0);
        floor.send(3, 10, 0, 0);
        is("shut at 1", 1, floor.port(1, 2, 2));
        is("not at its other end", 0, floor.port(0, 1, 2));
        floor.beat(4);
        is("four beats", 1, floor.port(1, 2, 2));
        floor.beat(1);
        is("five beats", 0, floor.port(1, 2, 2));
        is("it has no role yet", 0, floor.port(1, 2, 1));
        floor.beat(1);
        is("the next beat gives it one", 1, floor.port(1, 2, 1));
        floor.beat(1);
        is("it waits", 0, floor.port(1, 2, 0));
        floor.beat(1);
        is("open at the end of the second behind that", 1, floor.port(1, 2, 0));
    }
}
