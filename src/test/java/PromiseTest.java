/** One part for each promise of the document: ordinary inputs, the edges that it names, and wrong inputs. */
public final class PromiseTest {
    private static final long BOUNDS = Check.OUT_OF_BOUNDS;
    private static final long ARGUMENT = Check.BAD_ARGUMENT;
    private static final long STATE = Check.BAD_STATE;

    public static void main(String[] args) {
        promise1NewObject();
        promise2Wire();
        promise3Free();
        promise4House();
        promise5Rank();
        promise6Shut();
        promise7RootGuard();
        promise7HouseGuard();
        promise8Plain();
        promise9Trunk();
        promise9TwoTags();
        promise10Limit();
        promise11Tree();
        promise11Hops();
        promise11Ties();
        promise11Waits();
        promise11Flush();
        promise12Send();
        promise12Storm();
        promise12Rounds();
        promise13Holds();
        promise14Port();
        promise15Table();
        promise16Got();
        promise17Rest();
        promise18Found();
        promise19Walk();
        Check.end();
    }

    // ---- helpers

    /** A call that must throw, and change nothing by it. */
    private static void refused(SwitchFloor floor, String call, long due, Check.Call made) {
        String before = Dump.of(floor);
        Check.gives(call, due, made);
        Check.is("nothing changed by " + call, true, before.equals(Dump.of(floor)));
    }

    private static long done(Runnable call) {
        call.run();
        return 0;
    }

    // ---- the promises

    private static void promise1NewObject() {
        Check.part("promise 1");
        SwitchFloor floor = new SwitchFloor();
        for (int one = 0; one < 6; one++) {
            Check.is("root of " + one, one, floor.holds(one, 0));
            Check.is("cost of " + one, 0, floor.holds(one, 1));
            Check.is("hops of " + one, 0, floor.holds(one, 2));
            Check.is("root port of " + one, -1, floor.holds(one, 3));
            Check.is("entries of " + one, 0, floor.holds(one, 4));
            Check.is("found from " + one, 1000 * one, floor.found(one));
            Check.is("rank of " + one, 8, floor.rank(one, 8));
            for (int port = 0; port < 5; port++) {
                for (int what = 0; what < 4; what++) {
                    Check.is("port " + one + port + " " + what, 0, floor.port(one, port, what));
                }
                Check.is("guard " + one + port, 0, floor.guard(one, port, 0));
            }
        }
        for (int house = 0; house < 10; house++) {
            Check.is("got " + house, 0, floor.got(house, false));
            Check.is("overheard " + house, 0, floor.got(house, true));
        }
        Check.is("limit", 20, floor.limit(20));
        Check.is("rest", true, floor.isAtRest());
        Check.is("first beat", 1, floor.beat(1));
    }

    private static void promise2Wire() {
        Check.part("promise 2");
        SwitchFloor floor = new SwitchFloor();
        Check.is("first", 1, floor.wire(0, 0, 1, 0, 1));
        Check.is("second", 2, floor.wire(5, 4, 0, 4, 100));
        Check.is("parallel", 3, floor.wire(0, 1, 1, 1, 7));
        floor.house(2, 0, 3);
        refused(floor, "switch -1", BOUNDS, () -> floor.wire(-1, 0, 1, 2, 1));
        refused(floor, "switch 6", BOUNDS, () -> floor.wire(6, 0, 1, 2, 1));
        refused(floor, "port -1", BOUNDS, () -> floor.wire(0, -1, 1, 2, 1));
        refused(floor, "port 5", BOUNDS, () -> floor.wire(0, 5, 1, 2, 1));
        refused(floor, "other switch -1", BOUNDS, () -> floor.wire(0, 2, -1, 2, 1));
        refused(floor, "other switch 6", BOUNDS, () -> floor.wire(0, 2, 6, 2, 1));
        refused(floor, "other port -1", BOUNDS, () -> floor.wire(0, 2, 1, -1, 1));
        refused(floor, "other port 5", BOUNDS, () -> floor.wire(0, 2, 1, 5, 1));
        refused(floor, "bounds ahead of all", BOUNDS, () -> floor.wire(0, 0, 0, 5, 0));
        refused(floor, "same switch", ARGUMENT, () -> floor.wire(0, 2, 0, 3, 1));
        refused(floor, "cost 0", ARGUMENT, () -> floor.wire(0, 2, 2, 2, 0));
        refused(floor, "cost 101", ARGUMENT, () -> floor.wire(0, 2, 2, 2, 101));
        refused(floor, "argument ahead of state", ARGUMENT, () -> floor.wire(0, 0, 1, 0, 0));
        refused(floor, "wire at one", STATE, () -> floor.wire(0, 0, 3, 0, 1));
        refused(floor, "wire at the other", STATE, () -> floor.wire(3, 0, 1, 0, 1));
        refused(floor, "house at one", STATE, () -> floor.wire(2, 0, 3, 0, 1));
        refused(floor, "house at the other", STATE, () -> floor.wire(3, 0, 2, 0, 1));
        Check.is("fourth", 4, floor.wire(3, 0, 4, 0, 50));
        Check.is("itself", 3000, floor.found(3));
        Check.is("cost of it", 3050, floor.found(4));
        Check.is("closed at first", 0, floor.port(3, 0, 0));
        Check.is("no role at first", 0, floor.port(3, 0, 1));
    }

    private static void promise3Free() {
        Check.part("promise 3");
        SwitchFloor floor = Floors.housedRow(3);
        floor.send(2, 10, 0, 0);
        floor.send(0, 10, 0, 0);
        Check.is("heard at 1 from 0", 2, floor.table(1, 1, 0));
        Check.is("heard at 0 from 2", 1, floor.table(0, 1, 2));
        refused(floor, "switch 6", BOUNDS, () -> floor.free(6, 0));
        refused(floor, "switch -1", BOUNDS, () -> floor.free(-1, 0));
        refused(floor, "port 5", BOUNDS, () -> floor.free(0, 5));
        refused(floor, "port -1", BOUNDS, () -> floor.free(0, -1));
        refused(floor, "nothing there", STATE, () -> floor.free(0, 4));
        Check.is("wire from its other end", -1, floor.free(1, 2));
        Check.is("closed", 0, floor.port(1, 2, 0));
        Check.is("other closed", 0, floor.port(0, 1, 0));
        Check.is("no role", 0, floor.port(1, 2, 1));
        Check.is("no role of the other", 0, floor.port(0, 1, 1));
        Check.is("entry gone", -1, floor.table(1, 1, 0));
        Check.is("entry of the other gone", -1, floor.table(0, 1, 2));
        Check.is("another entry stays", 1, floor.table(1, 1, 2));
        refused(floor, "again", STATE, () -> floor.free(1, 2));
        refused(floor, "again, from the other end", STATE, () -> floor.free(0, 1));
        Check.is("house", 2, floor.free(2, 0));
        Check.is("house's port closed", 0, floor.port(2, 0, 0));
        Check.is("its entry gone", -1, floor.table(2, 1, 2));
        refused(floor, "house again", STATE, () -> floor.free(2, 0));
        Check.is("wires then", 2, floor.wire(0, 1, 1, 2, 1));
        Check.is("houses then", 3, floor.house(1, 4, 2));
        Check.is("a new wire is closed", 0, floor.port(0, 1, 0));
        floor.beat(2);
        Check.is("still waits", 0, floor.port(0, 1, 0));
        floor.beat(1);
        Check.is("open", 1, floor.port(0, 1, 0));
        floor.free(0, 1);
        floor.wire(0, 1, 1, 2, 1);
        floor.beat(2);
        floor.free(1, 2);
        floor.wire(0, 1, 1, 2, 1);
        floor.beat(2);
        Check.is("a wire put anew waits anew", 0, floor.port(0, 1, 0) + floor.port(1, 2, 0));
        floor.beat(1);
        Check.is("and is open at both ends", 2, floor.port(0, 1, 0) + floor.port(1, 2, 0));
    }

    private static void promise4House() {
        Check.part("promise 4");
        SwitchFloor floor = new SwitchFloor();
        floor.wire(0, 1, 1, 1, 1);
        Check.is("first", 1, floor.house(0, 0, 0));
        Check.is("open at once", 1, floor.port(0, 0, 0));
        Check.is("no role", 0, floor.port(0, 0, 1));
        Check.is("second", 2, floor.house(5, 4, 9));
        refused(floor, "switch 6", BOUNDS, () -> floor.house(6, 0, 1));
        refused(floor, "switch -1", BOUNDS, () -> floor.house(-1, 0, 1));
        refused(floor, "port 5", BOUNDS, () -> floor.house(1, 5, 1));
        refused(floor, "port -1", BOUNDS, () -> floor.house(1, -1, 1));
        refused(floor, "house 10", BOUNDS, () -> floor.house(1, 0, 10));
        refused(floor, "house -1", BOUNDS, () -> floor.house(1, 0, -1));
        refused(floor, "bounds ahead of state", BOUNDS, () -> floor.house(0, 0, 10));
        refused(floor, "port with a wire", STATE, () -> floor.house(0, 1, 1));
        refused(floor, "port with a house", STATE, () -> floor.house(0, 0, 1));
        refused(floor, "house is at a port", STATE, () -> floor.house(1, 0, 9));
        floor.shut(2, 2);
        Check.is("to a port that is shut", 3, floor.house(2, 2, 4));
        Check.is("is closed", 0, floor.port(2, 2, 0));
        floor.beat(3);
        Check.is("stays open", 1, floor.port(0, 0, 0));
        Check.is("stays closed", 0, floor.port(2, 2, 0));
        floor.free(5, 4);
        Check.is("moves", 3, floor.house(4, 4, 9));
    }

    private static void promise5Rank() {
        Check.part("promise 5");
        SwitchFloor floor = Floors.row(3, 4);
        floor.beat(4);
        refused(floor, "switch 6", BOUNDS, () -> floor.rank(6, 0));
        refused(floor, "switch -1", BOUNDS, () -> floor.rank(-1, 16));
        refused(floor, "rank 16", ARGUMENT, () -> floor.rank(0, 16));
        refused(floor, "rank -1", ARGUMENT, () -> floor.rank(0, -1));
        Check.is("was", 8, floor.rank(2, 0));
        Check.is("was then", 0, floor.rank(2, 7));
        Check.is("found at once", 2008, floor.found(0));
        Check.is("held as before", 0, floor.holds(2, 0));
        floor.beat(1);
        Check.is("itself", 2, floor.holds(2, 0));
        Check.is("not yet told", 0, floor.holds(1, 0));
        floor.beat(2);
        Check.is("told over two wires", 2, floor.holds(0, 0));
        Check.is("cost", 8, floor.holds(0, 1));
        floor.rank(2, 8);
        floor.rank(0, 15);
        floor.rank(1, 15);
        floor.beat(1);
        Check.is("least rank wins", 2, floor.holds(0, 0));
        floor.rank(2, 15);
        floor.beat(3);
        Check.is("like ranks: least number", 0, floor.holds(2, 0));
    }

    private static void promise6Shut() {
        Check.part("promise 6");
        SwitchFloor floor = Floors.housedRow(3);
        floor.send(2, 10, 0, 0);
        refused(floor, "switch 6", BOUNDS, () -> floor.shut(6, 0) ? 1 : 0);
        refused(floor, "switch -1", BOUNDS, () -> floor.shut(-1, 0) ? 1 : 0);
        refused(floor, "port 5", BOUNDS, () -> floor.shut(0, 5) ? 1 : 0);
        refused(floor, "port -1", BOUNDS, () -> floor.shut(0, -1) ? 1 : 0);
        Check.is("shut", true, floor.shut(1, 1));
        Check.is("is shut", 1, floor.port(1, 1, 2));
        Check.is("closed", 0, floor.port(1, 1, 0));
        Check.is("no role", 0, floor.port(1, 1, 1));
        Check.is("the other end is not shut", 0, floor.port(2, 2, 2));
        Check.is("nor closed", 1, floor.port(2, 2, 0));
        Check.is("entry gone", -1, floor.table(1, 1, 2));
        Check.is("no frame by it", 1, floor.send(0, 10, 0, 0));
        floor.beat(1);
        Check.is("nothing told by it", 2, floor.holds(2, 0));
        Check.is("the other end is designated", 2, floor.port(2, 2, 1));
        Check.is("shut, it has no role", 0, floor.port(1, 1, 1));
        Check.is("by hand it lasts", 1, floor.port(1, 1, 2));
        floor.beat(30);
        Check.is("long", 1, floor.port(1, 1, 2));
        Check.is("not any more", false, floor.shut(1, 1));
        Check.is("not open at once", 0, floor.port(1, 1, 0));
        floor.beat(2);
        Check.is("waits", 0, floor.port(1, 1, 0));
        floor.beat(1);
        Check.is("open then", 1, floor.port(1, 1, 0));
        floor.shut(1, 1);
        floor.shut(1, 1);
        floor.beat(2);
        Check.is("shut for no beat, it waits all the same", 0, floor.port(1, 1, 0));
        floor.beat(1);
        Check.is("and is open then", 1, floor.port(1, 1, 0));
        Check.is("house shut", true, floor.shut(0, 0));
        Check.is("house's port closed", 0, floor.port(0, 0, 0));
        Check.is("house not shut", false, floor.shut(0, 0));
        Check.is("house's port open at once", 1, floor.port(0, 0, 0));
        Check.is("a bare port", true, floor.shut(4, 4));
        Check.is("a bare port again", false, floor.shut(4, 4));
        Check.is("is not open", 0, floor.port(4, 4, 0));
        endsGuardAndStorm();
    }

    private static void endsGuardAndStorm() {
        SwitchFloor floor = Floors.housedRow(2);
        floor.limit(1);
        floor.send(0, 10, 0, 0);
        floor.send(0, 10, 0, 0);
        Check.is("storm", 1, floor.port(0, 0, 2));
        Check.is("ends a storm", false, floor.shut(0, 0));
        Check.is("open at once", 1, floor.port(0, 0, 0));
        Check.is("shut by hand", true, floor.shut(0, 0));
        floor.beat(6);
        Check.is("the storm is forgotten", 1, floor.port(0, 0, 2));
        floor.guard(0, 1, 2);
        floor.beat(1);
        Check.is("guard shut it", 1, floor.port(0, 1, 2));
        Check.is("ends a guard's", false, floor.shut(0, 1));
        floor.beat(1);
        Check.is("and the guard shuts again", 1, floor.port(0, 1, 2));
    }

    private static void promise7RootGuard() {
        Check.part("promise 7, root guard");
        SwitchFloor floor = Floors.row(3, 1);
        floor.beat(6);
        refused(floor, "switch 6", BOUNDS, () -> floor.guard(6, 0, 3));
        refused(floor, "switch -1", BOUNDS, () -> floor.guard(-1, 0, 0));
        refused(floor, "port 5", BOUNDS, () -> floor.guard(0, 5, 0));
        refused(floor, "port -1", BOUNDS, () -> floor.guard(0, -1, 3));
        refused(floor, "guard 3", ARGUMENT, () -> floor.guard(0, 0, 3));
        refused(floor, "guard -1", ARGUMENT, () -> floor.guard(0, 0, -1));
        Check.is("was none", 0, floor.guard(1, 1, 1));
        Check.is("was root", 1, floor.guard(1, 1, 2));
        Check.is("was house", 2, floor.guard(1, 1, 1));
        floor.beat(1);
        Check.is("no better root: designated", 2, floor.port(1, 1, 1));
        Check.is("stays open", 1, floor.port(1, 1, 0));
        floor.rank(2, 0);
        floor.beat(1);
        Check.is("2 is told no root but 2", 2, floor.holds(2, 0));
        floor.beat(1);
        Check.is("does not count", 0, floor.holds(1, 0));
        Check.is("closed", 0, floor.port(1, 1, 0));
        Check.is("not shut", 0, floor.port(1, 1, 2));
        Check.is("neither", 3, floor.port(1, 1, 1));
        floor.guard(1, 1, 0);
        floor.beat(1);
        Check.is("counts without guard", 2, floor.holds(1, 0));
        Check.is("root port", 1, floor.holds(1, 3));
        likeRootByGuard();
    }

    private static void likeRootByGuard() {
        SwitchFloor floor = new SwitchFloor();
        floor.wire(0, 0, 1, 0, 9);
        floor.wire(0, 1, 1, 1, 2);
        floor.guard(1, 1, 1);
        floor.beat(1);
        Check.is("a like root counts by a guarded port", 1, floor.holds(1, 3));
        Check.is("with its cost", 2, floor.holds(1, 1));
        floor.guard(1, 0, 1);
        floor.beat(1);
        Check.is("both guarded", 1, floor.holds(1, 0));
        Check.is("the first is held back", 3, floor.port(1, 0, 1));
        Check.is("the second is held back", 3, floor.port(1, 1, 1));
    }

    private static void promise7HouseGuard() {
        Check.part("promise 7, house guard");
        SwitchFloor floor = Floors.housedRow(2);
        floor.send(0, 10, 0, 0);
        floor.send(1, 10, 0, 0);
        floor.guard(0, 0, 2);
        floor.guard(1, 2, 2);
        Check.is("not at once", 0, floor.port(1, 2, 2));
        floor.beat(1);
        Check.is("a house's port is left", 1, floor.port(0, 0, 0));
        Check.is("shut", 1, floor.port(1, 2, 2));
        Check.is("closed", 0, floor.port(1, 2, 0));
        Check.is("no role", 0, floor.port(1, 2, 1));
        Check.is("what came does not count", 1, floor.holds(1, 0));
        Check.is("its entries are gone", -1, floor.table(1, 1, 0));
        Check.is("others stay", 0, floor.table(1, 1, 1));
        Check.is("at the other end, too", 1, floor.table(0, 1, 1));
        floor.guard(1, 2, 0);
        floor.beat(9);
        Check.is("as by hand: it stays, also without guard", 1, floor.port(1, 2, 2));
        SwitchFloor bothEnds = Floors.row(2, 1);
        bothEnds.guard(0, 1, 2);
        bothEnds.guard(1, 2, 2);
        bothEnds.beat(1);
        Check.is("one end", 1, bothEnds.port(0, 1, 2));
        Check.is("the other end", 1, bothEnds.port(1, 2, 2));
    }

    private static void promise8Plain() {
        Check.part("promise 8");
        SwitchFloor floor = new SwitchFloor();
        floor.house(0, 0, 0);
        floor.house(0, 1, 1);
        floor.house(0, 2, 2);
        refused(floor, "switch 6", BOUNDS, () -> done(() -> floor.plain(6, 0, 1)));
        refused(floor, "switch -1", BOUNDS, () -> done(() -> floor.plain(-1, 0, 1)));
        refused(floor, "port 5", BOUNDS, () -> done(() -> floor.plain(0, 5, 1)));
        refused(floor, "port -1", BOUNDS, () -> done(() -> floor.plain(0, -1, 1)));
        refused(floor, "lane 0", BOUNDS, () -> done(() -> floor.plain(0, 0, 0)));
        refused(floor, "lane 4", BOUNDS, () -> done(() -> floor.plain(0, 0, 4)));
        Check.is("lane 1 at first", 1, floor.send(0, 1, 1, 0));
        Check.is("heard there", 0, floor.table(0, 1, 0));
        Check.is("another tag", 0, floor.send(0, 1, 2, 0));
        floor.plain(0, 0, 3);
        floor.plain(0, 1, 3);
        Check.is("its lane", 2, floor.send(0, 10, 3, 0) + floor.send(0, 1, 0, 0));
        Check.is("its old lane", 0, floor.send(0, 1, 1, 0));
        Check.is("heard in its lane", 0, floor.table(0, 3, 0));
        Check.is("the old entry stays", 0, floor.table(0, 1, 0));
        Check.is("lanes are apart", 0, floor.send(2, 0, 0, 0));
        floor.trunk(0, 0, 7, 1);
        floor.plain(0, 0, 3);
        Check.is("no trunk any more", 0, floor.send(0, 2, 1, 0));
    }

    private static void promise9Trunk() {
        Check.part("promise 9");
        SwitchFloor floor = new SwitchFloor();
        floor.house(0, 0, 0);
        for (int lane = 1; lane <= 3; lane++) {
            floor.house(0, lane, lane);
            floor.plain(0, lane, lane);
        }
        refused(floor, "switch 6", BOUNDS, () -> done(() -> floor.trunk(6, 0, 0, 1)));
        refused(floor, "switch -1", BOUNDS, () -> done(() -> floor.trunk(-1, 0, 7, 1)));
        refused(floor, "port 5", BOUNDS, () -> done(() -> floor.trunk(0, 5, 7, 1)));
        refused(floor, "port -1", BOUNDS, () -> done(() -> floor.trunk(0, -1, 7, 1)));
        refused(floor, "lane 0 ahead of lanes", BOUNDS, () -> done(() -> floor.trunk(0, 0, 0, 0)));
        refused(floor, "lane 4", BOUNDS, () -> done(() -> floor.trunk(0, 0, 7, 4)));
        refused(floor, "lanes 0", ARGUMENT, () -> done(() -> floor.trunk(0, 0, 0, 1)));
        refused(floor, "lanes 8", ARGUMENT, () -> done(() -> floor.trunk(0, 0, 8, 1)));
        refused(floor, "lanes -1", ARGUMENT, () -> done(() -> floor.trunk(0, 0, -1, 1)));
        floor.trunk(0, 0, 5, 3);
        Check.is("lane 1 by its tag", 1, floor.send(0, 1, 1, 0));
        Check.is("lane 2 is not carried", 0, floor.send(0, 2, 2, 0));
        Check.is("lane 3 by its tag", 1, floor.send(0, 3, 3, 0));
        Check.is("native without a tag", 1, floor.send(0, 3, 0, 0));
        Check.is("native alone", 0, floor.send(0, 1, 0, 0));
        Check.is("out in lane 1", 1, floor.send(1, 0, 0, 0));
        Check.is("out in lane 2", 0, floor.send(2, 0, 0, 0));
        Check.is("out in lane 3", 1, floor.send(3, 0, 0, 0));
        Check.is("heard in both", 2, (floor.table(0, 1, 0) == 0 ? 1 : 0) + (floor.table(0, 3, 0) == 0 ? 1 : 0));
        floor.trunk(0, 0, 5, 2);
        Check.is("a native lane that is not carried, in", 0, floor.send(0, 2, 0, 0));
        Check.is("and out", 0, floor.send(2, 0, 0, 0));
        Check.is("a carried one goes on", 1, floor.send(0, 1, 1, 0));
    }

    private static void promise9TwoTags() {
        Check.part("promise 9, two tags");
        SwitchFloor floor = Floors.housedRow(3);
        floor.plain(2, 0, 3);
        for (int one = 0; one < 3; one++) {
            floor.trunk(one, 1, 7, 1);
            floor.trunk(one, 2, 7, 1);
        }
        Check.is("slips through", 1, floor.send(0, 2, 1, 3));
        Check.is("in lane 1 at the first", 0, floor.table(0, 1, 0));
        Check.is("in lane 3 at the second", 2, floor.table(1, 3, 0));
        Check.is("in lane 3 at the third", 2, floor.table(2, 3, 0));
        Check.is("not lane 1 at the second", -1, floor.table(1, 1, 0));
        floor.trunk(0, 1, 7, 2);
        floor.trunk(1, 2, 7, 2);
        floor.beat(10);
        Check.is("the first tag stays by another native lane", 1, floor.send(0, 2, 1, 3));
        Check.is("lane 1 at the second then", 2, floor.table(1, 1, 0));
        Check.is("behind that, the left tag counts", 2, floor.table(2, 3, 0));
        floor.plain(0, 0, 2);
        Check.is("a tag of another lane is not let in", 0, floor.send(0, 2, 1, 3));
        Check.is("two like tags", 0, floor.send(0, 1, 2, 2));
        Check.is("both are taken, one a switch", 2, floor.table(1, 2, 0));
    }

    private static void promise10Limit() {
        Check.part("promise 10");
        SwitchFloor floor = Floors.housedRow(2);
        refused(floor, "0", ARGUMENT, () -> floor.limit(0));
        refused(floor, "101", ARGUMENT, () -> floor.limit(101));
        Check.is("20 at first", 20, floor.limit(100));
        Check.is("was 100", 100, floor.limit(1));
        Check.is("was 1", 1, floor.limit(20));
        for (int i = 0; i < 20; i++) {
            Check.is("flood " + i, 1, floor.send(0, 10, 0, 0));
        }
        Check.is("at the limit", 0, floor.port(0, 0, 2));
        Check.is("above", 0, floor.send(0, 10, 0, 0));
        Check.is("shut", 1, floor.port(0, 0, 2));
        floor.limit(30);
        Check.is("a later limit does not open it", 1, floor.port(0, 0, 2));
    }

    private static void promise11Tree() {
        Check.part("promise 11, the tree");
        SwitchFloor floor = new SwitchFloor();
        refused(floor, "0", ARGUMENT, () -> floor.beat(0));
        refused(floor, "31", ARGUMENT, () -> floor.beat(31));
        refused(floor, "-1", ARGUMENT, () -> floor.beat(-1));
        floor.wire(0, 0, 1, 0, 10);
        floor.wire(1, 1, 2, 1, 3);
        floor.wire(0, 2, 2, 2, 20);
        Check.is("one", 1, floor.beat(1));
        Check.is("cost by the direct wire", 20, floor.holds(2, 1));
        Check.is("its root port", 2, floor.holds(2, 3));
        Check.is("30", 31, floor.beat(30));
        Check.is("cheaper by two wires", 13, floor.holds(2, 1));
        Check.is("hops", 2, floor.holds(2, 2));
        Check.is("root port", 1, floor.holds(2, 3));
        Check.is("role of that", 1, floor.port(2, 1, 1));
        Check.is("the other is neither", 3, floor.port(2, 2, 1));
        Check.is("and closed", 0, floor.port(2, 2, 0));
        Check.is("designated at its other end", 2, floor.port(0, 2, 1));
        Check.is("and open", 1, floor.port(0, 2, 0));
        Check.is("ports without either are never open", 0, floor.port(0, 4, 0));
    }

    private static void promise11Hops() {
        Check.part("promise 11, hops");
        SwitchFloor floor = Floors.row(6, 1);
        floor.beat(6);
        Check.is("five hops", 5, floor.holds(5, 2));
        floor.rank(0, 0);
        floor.wire(1, 3, 5, 3, 1);
        floor.beat(8);
        floor.free(0, 1);
        int most = 0;
        for (int i = 0; i < 20; i++) {
            floor.beat(1);
            for (int one = 1; one < 6; one++) {
                most = Math.max(most, floor.holds(one, 2));
            }
        }
        Check.is("an old root goes round up to 7 hops", 7, most);
        Check.is("and is forgotten", 1, floor.holds(3, 0));
    }

    private static void promise11Ties() {
        Check.part("promise 11, ties");
        SwitchFloor floor = new SwitchFloor();
        floor.wire(0, 0, 1, 0, 1);
        floor.wire(0, 1, 2, 0, 1);
        floor.wire(2, 1, 3, 0, 1);
        floor.wire(1, 1, 3, 1, 1);
        floor.beat(5);
        Check.is("by the better teller", 1, floor.holds(3, 3));
        floor.rank(0, 0);
        floor.rank(2, 1);
        floor.beat(1);
        Check.is("as its rank is then", 0, floor.holds(3, 3));
        SwitchFloor twins = new SwitchFloor();
        twins.wire(0, 4, 1, 0, 1);
        twins.wire(0, 3, 1, 1, 1);
        twins.wire(0, 2, 1, 2, 1);
        twins.beat(3);
        Check.is("by the lower port of the teller", 2, twins.holds(1, 3));
        Check.is("others are neither", 3, twins.port(1, 0, 1));
        twins.shut(0, 2);
        twins.beat(1);
        Check.is("by the next one", 1, twins.holds(1, 3));
        SwitchFloor like = new SwitchFloor();
        like.wire(0, 0, 1, 0, 5);
        like.wire(0, 1, 2, 0, 5);
        like.wire(1, 1, 2, 1, 5);
        like.beat(4);
        Check.is("of like costs the better name is designated", 2, like.port(1, 1, 1));
        Check.is("the other is neither", 3, like.port(2, 1, 1));
    }

    private static void promise11Waits() {
        Check.part("promise 11, waits");
        SwitchFloor floor = Floors.row(2, 1);
        floor.beat(2);
        Check.is("second beat", 0, floor.port(0, 1, 0));
        floor.beat(1);
        Check.is("third beat", 1, floor.port(0, 1, 0));
        Check.is("root port too", 1, floor.port(1, 2, 0));
        floor.rank(1, 0);
        floor.beat(1);
        Check.is("roles change, the port is to be open all the same", 1, floor.port(0, 1, 0));
        SwitchFloor twin = new SwitchFloor();
        twin.wire(0, 0, 1, 0, 1);
        twin.wire(0, 1, 1, 1, 1);
        twin.beat(5);
        Check.is("neither is closed", 0, twin.port(1, 1, 0));
        twin.shut(0, 0);
        twin.beat(1);
        Check.is("comes about", 1, twin.port(1, 1, 1));
        twin.beat(1);
        twin.shut(0, 0);
        twin.beat(1);
        Check.is("not to be open in each: it stays closed", 0, twin.port(1, 1, 0));
        twin.shut(0, 0);
        twin.beat(2);
        Check.is("anew", 0, twin.port(1, 1, 0));
        twin.beat(1);
        Check.is("in the third", 1, twin.port(1, 1, 0));
        twin.shut(0, 0);
        twin.beat(1);
        Check.is("closed at once", 0, twin.port(1, 1, 0));
    }

    private static void promise11Flush() {
        Check.part("promise 11, flush");
        SwitchFloor floor = Floors.housedRow(4);
        floor.send(0, 10, 0, 0);
        floor.house(5, 0, 5);
        floor.send(5, 10, 0, 0);
        floor.shut(2, 1);
        floor.beat(1);
        Check.is("shut by hand: kept", 2, floor.table(1, 1, 0));
        Check.is("behind it, too", 2, floor.table(3, 1, 0));
        floor.beat(1);
        floor.shut(2, 1);
        floor.beat(2);
        Check.is("while it waits: kept", 2, floor.table(1, 1, 0));
        floor.beat(1);
        Check.is("it opened: emptied there", 0, floor.holds(2, 4));
        Check.is("and all that can be reached", 0, floor.holds(0, 4) + floor.holds(1, 4) + floor.holds(3, 4));
        Check.is("no other", 1, floor.holds(5, 4));
        SwitchFloor cut = Floors.housedRow(3);
        cut.shut(1, 2);
        cut.wire(2, 3, 3, 3, 1);
        cut.send(0, 10, 0, 0);
        cut.send(1, 10, 0, 0);
        cut.beat(3);
        Check.is("not behind a shut port", 1, cut.holds(0, 4));
        Check.is("this side of it", 0, cut.holds(1, 4));
    }

    private static void promise12Send() {
        Check.part("promise 12");
        SwitchFloor floor = Floors.housedRow(3);
        floor.house(1, 3, 7);
        refused(floor, "from -1", BOUNDS, () -> floor.send(-1, 0, 0, 0));
        refused(floor, "from 10", BOUNDS, () -> floor.send(10, 10, 0, 0));
        refused(floor, "to -1", BOUNDS, () -> floor.send(0, -1, 4, 0));
        refused(floor, "to 11", BOUNDS, () -> floor.send(0, 11, 0, 0));
        refused(floor, "to itself", ARGUMENT, () -> floor.send(0, 0, 0, 0));
        refused(floor, "tag 4", ARGUMENT, () -> floor.send(0, 1, 4, 0));
        refused(floor, "tag -1", ARGUMENT, () -> floor.send(0, 1, -1, 0));
        refused(floor, "second 4", ARGUMENT, () -> floor.send(0, 1, 1, 4));
        refused(floor, "second -1", ARGUMENT, () -> floor.send(0, 1, 1, -1));
        refused(floor, "second without a first", ARGUMENT, () -> floor.send(0, 1, 0, 1));
        refused(floor, "argument ahead of state", ARGUMENT, () -> floor.send(9, 0, 4, 0));
        refused(floor, "at no port", STATE, () -> floor.send(9, 0, 0, 0));
        Check.is("to all", 3, floor.send(0, 10, 0, 0));
        Check.is("got, not by itself", 0, floor.got(0, false));
        Check.is("by its table", 1, floor.send(2, 0, 0, 0));
        Check.is("nobody overheard it", 0, floor.got(7, true) + floor.got(1, true));
        Check.is("to a house that was not heard", 1, floor.send(0, 1, 0, 0));
        Check.is("overheard", 1, floor.got(7, true));
        Check.is("to a house at no port", 0, floor.send(0, 9, 0, 0));
        Check.is("all overheard", 2, floor.got(7, true));
        Check.is("tags that are left do not matter", 1, floor.send(0, 2, 1, 1));
        floor.shut(2, 0);
        Check.is("behind a closed port", 0, floor.send(0, 2, 0, 0));
        Check.is("from a closed port", 0, floor.send(2, 0, 0, 0));
        backByTheSamePort();
        byClosedEntry();
    }

    private static void backByTheSamePort() {
        SwitchFloor floor = Floors.housedRow(2);
        floor.house(0, 3, 3);
        floor.house(1, 3, 4);
        floor.send(4, 10, 0, 0);
        floor.free(1, 3);
        int floods = floor.port(0, 1, 3);
        Check.is("0 knows 4 behind the wire by which it comes", 0, floor.send(1, 4, 0, 0));
        Check.is("it does not go on to others", 0, floor.got(0, true) + floor.got(3, true));
        Check.is("nor back", 0, floor.got(1, true));
        Check.is("and is no flood there", floods, floor.port(0, 1, 3));
        Check.is("but heard", 1, floor.table(0, 1, 1));
    }

    private static void byClosedEntry() {
        SwitchFloor floor = Floors.housedRow(2);
        floor.send(1, 10, 0, 0);
        floor.plain(0, 1, 2);
        int floods = floor.port(0, 0, 3);
        Check.is("the port is open, but not for its lane", 0, floor.send(0, 1, 0, 0));
        Check.is("that is no flood", floods, floor.port(0, 0, 3));
    }

    private static void promise12Storm() {
        Check.part("promise 12, storm");
        SwitchFloor floor = Floors.housedRow(3);
        floor.limit(3);
        floor.send(2, 10, 0, 0);
        for (int i = 0; i < 3; i++) {
            Check.is("at most as many as the limit", 2, floor.send(0, 10, 0, 0));
        }
        Check.is("counted at the first", 3, floor.port(0, 0, 3));
        Check.is("counted at the last", 3, floor.port(2, 2, 3));
        Check.is("by its table is no flood", 1, floor.send(0, 2, 0, 0));
        Check.is("1 floods, over 2", 0, floor.send(1, 9, 0, 0));
        Check.is("2's port is shut", 1, floor.port(2, 2, 2));
        Check.is("closed", 0, floor.port(2, 2, 0));
        Check.is("no role", 0, floor.port(2, 2, 1));
        Check.is("its entries are gone", -1, floor.table(2, 1, 0));
        Check.is("what it counted stays", 4, floor.port(2, 2, 3));
        floor.beat(1);
        Check.is("until the beat", 0, floor.port(2, 2, 3));
        Check.is("nothing is told by it", 2, floor.holds(2, 0));
        floor.beat(3);
        Check.is("four beats", 1, floor.port(2, 2, 2));
        floor.beat(1);
        Check.is("five beats", 0, floor.port(2, 2, 2));
        Check.is("no role yet", 0, floor.port(2, 2, 1));
        floor.beat(2);
        Check.is("waits from the next beat on", 0, floor.port(2, 2, 0));
        floor.beat(1);
        Check.is("open then", 1, floor.port(2, 2, 0));
        floor.limit(1);
        floor.send(1, 10, 0, 0);
        floor.send(1, 10, 0, 0);
        floor.beat(4);
        Check.is("a house's is shut as long", 0, floor.port(1, 0, 0));
        floor.beat(1);
        Check.is("and is open at the end of the fifth", 1, floor.port(1, 0, 0));
    }

    private static void promise12Rounds() {
        Check.part("promise 12, rounds");
        SwitchFloor floor = Floors.openRound();
        Check.is("twelve hops in both directions", 24, floor.send(0, 10, 0, 0));
        Check.is("the one that sent it gets it twice from each", 4, floor.got(0, false));
        Check.is("others, too", 4, floor.got(3, false));
        Check.is("nobody overheard it", 0, floor.got(0, true) + floor.got(3, true));
        Check.is("floods by the first's house port", 1, floor.port(0, 0, 3));
        Check.is("floods by the first's wire", 2, floor.port(0, 1, 3));
        Check.is("the last that came by is heard", 1, floor.table(0, 1, 0));
        Check.is("to a house at no port", 0, floor.send(0, 9, 0, 0));
        Check.is("overheard by the one that sent it", 4, floor.got(0, true));
        Check.is("and by others", 4, floor.got(5, true));
        floor.limit(5);
        Check.is("storms in both directions, behind one round each", 12, floor.send(0, 10, 0, 0));
        Check.is("shut where it came in above the limit", 1, floor.port(1, 2, 2));
        Check.is("and in the other direction", 1, floor.port(5, 1, 2));
        Check.is("not where it came in at the limit", 0, floor.port(2, 2, 2) + floor.port(0, 2, 2));
        SwitchFloor calm = Floors.openRound();
        calm.beat(2);
        Check.is("the dear wire is given up", 0, calm.port(5, 1, 0));
        Check.is("each gets it once", 5, calm.send(0, 10, 0, 0));
    }

    private static void promise13Holds() {
        Check.part("promise 13");
        SwitchFloor floor = Floors.housedRow(3);
        floor.send(0, 10, 0, 0);
        Check.is("root", 0, floor.holds(2, 0));
        Check.is("cost", 2, floor.holds(2, 1));
        Check.is("hops", 2, floor.holds(2, 2));
        Check.is("root port", 2, floor.holds(2, 3));
        Check.is("entries", 1, floor.holds(2, 4));
        Check.is("root port of a root", -1, floor.holds(0, 3));
        refused(floor, "switch 6", BOUNDS, () -> floor.holds(6, 5));
        refused(floor, "switch -1", BOUNDS, () -> floor.holds(-1, 0));
        refused(floor, "what 5", ARGUMENT, () -> floor.holds(0, 5));
        refused(floor, "what -1", ARGUMENT, () -> floor.holds(0, -1));
    }

    private static void promise14Port() {
        Check.part("promise 14");
        SwitchFloor floor = Floors.housedRow(2);
        floor.send(0, 10, 0, 0);
        Check.is("open", 1, floor.port(0, 1, 0));
        Check.is("designated", 2, floor.port(0, 1, 1));
        Check.is("root port", 1, floor.port(1, 2, 1));
        Check.is("not shut", 0, floor.port(0, 1, 2));
        Check.is("floods", 1, floor.port(1, 2, 3));
        Check.is("floods out do not count", 0, floor.port(0, 1, 3));
        refused(floor, "switch 6", BOUNDS, () -> floor.port(6, 0, 4));
        refused(floor, "switch -1", BOUNDS, () -> floor.port(-1, 0, 0));
        refused(floor, "port 5", BOUNDS, () -> floor.port(0, 5, 4));
        refused(floor, "port -1", BOUNDS, () -> floor.port(0, -1, 0));
        refused(floor, "what 4", ARGUMENT, () -> floor.port(0, 0, 4));
        refused(floor, "what -1", ARGUMENT, () -> floor.port(0, 0, -1));
        floor.rank(1, 0);
        Check.is("the role of the latest beat", 2, floor.port(0, 1, 1));
        floor.beat(2);
        Check.is("the role of this one", 1, floor.port(0, 1, 1));
        Check.is("floods since the beat", 0, floor.port(1, 2, 3));
    }

    private static void promise15Table() {
        Check.part("promise 15");
        SwitchFloor floor = Floors.housedRow(2);
        Check.is("none", -1, floor.table(1, 1, 0));
        floor.send(0, 10, 0, 0);
        Check.is("by the wire", 2, floor.table(1, 1, 0));
        Check.is("by its own port", 0, floor.table(0, 1, 0));
        Check.is("another lane", -1, floor.table(1, 2, 0));
        Check.is("another house", -1, floor.table(1, 1, 1));
        floor.free(0, 0);
        floor.house(1, 4, 0);
        floor.send(0, 10, 0, 0);
        Check.is("heard elsewhere", 4, floor.table(1, 1, 0));
        Check.is("one entry a lane and house", 1, floor.holds(1, 4));
        refused(floor, "switch 6", BOUNDS, () -> floor.table(6, 1, 0));
        refused(floor, "switch -1", BOUNDS, () -> floor.table(-1, 1, 0));
        refused(floor, "lane 0", BOUNDS, () -> floor.table(0, 0, 0));
        refused(floor, "lane 4", BOUNDS, () -> floor.table(0, 4, 0));
        refused(floor, "house 10", BOUNDS, () -> floor.table(0, 1, 10));
        refused(floor, "house -1", BOUNDS, () -> floor.table(0, 1, -1));
    }

    private static void promise16Got() {
        Check.part("promise 16");
        SwitchFloor floor = Floors.housedRow(3);
        floor.send(0, 10, 0, 0);
        floor.send(0, 1, 0, 0);
        floor.send(0, 1, 0, 0);
        Check.is("got", 3, floor.got(1, false));
        Check.is("overheard none of its own", 0, floor.got(1, true));
        Check.is("got once", 1, floor.got(2, false));
        Check.is("overheard", 2, floor.got(2, true));
        floor.free(1, 0);
        Check.is("kept without a port", 3, floor.got(1, false));
        refused(floor, "house 10", BOUNDS, () -> floor.got(10, false));
        refused(floor, "house -1", BOUNDS, () -> floor.got(-1, true));
    }

    private static void promise17Rest() {
        Check.part("promise 17");
        SwitchFloor floor = Floors.row(2, 1);
        Check.is("a new wire", false, floor.isAtRest());
        floor.beat(1);
        Check.is("ports wait", false, floor.isAtRest());
        floor.beat(1);
        Check.is("ports would open", false, floor.isAtRest());
        floor.beat(1);
        Check.is("open", true, floor.isAtRest());
        String before = Dump.of(floor);
        floor.isAtRest();
        Check.is("asking changes nothing", true, before.equals(Dump.of(floor)));
        floor.rank(1, 0);
        Check.is("another root", false, floor.isAtRest());
        floor.beat(2);
        Check.is("at rest with that", true, floor.isAtRest());
        floor.guard(0, 1, 1);
        Check.is("a guard would close", false, floor.isAtRest());
        floor.beat(1);
        Check.is("closed, and 1 is not told of it", true, floor.isAtRest());
        floor.guard(0, 1, 2);
        Check.is("a guard would shut", false, floor.isAtRest());
        floor.beat(2);
        Check.is("shut", true, floor.isAtRest());
        floor.house(0, 0, 0);
        Check.is("a house is open at once", true, floor.isAtRest());
        floor.limit(1);
        floor.send(0, 10, 0, 0);
        floor.send(0, 10, 0, 0);
        Check.is("a storm that goes on", true, floor.isAtRest());
        floor.beat(4);
        Check.is("a storm that would end and open a port", false, floor.isAtRest());
        floor.beat(1);
        Check.is("and did", true, floor.isAtRest());
    }

    private static void promise18Found() {
        Check.part("promise 18");
        SwitchFloor floor = new SwitchFloor();
        floor.wire(0, 0, 1, 0, 50);
        floor.wire(0, 1, 2, 0, 10);
        floor.wire(2, 1, 3, 0, 10);
        floor.wire(3, 1, 1, 1, 10);
        floor.wire(4, 0, 5, 0, 100);
        Check.is("at once, the cheapest way", 30, floor.found(1));
        Check.is("itself", 0, floor.found(0));
        Check.is("elsewhere", 4100, floor.found(5));
        floor.shut(3, 0);
        Check.is("not by a shut end", 50, floor.found(1));
        Check.is("seen from its side", 60, floor.found(3));
        floor.shut(3, 0);
        floor.shut(2, 1);
        Check.is("nor by the other end", 60, floor.found(3));
        floor.guard(0, 0, 1);
        floor.guard(1, 0, 1);
        floor.rank(3, 2);
        Check.is("guards do not matter, ranks do", 3060, floor.found(0));
        floor.free(0, 0);
        Check.is("without the wire", 0, floor.found(0));
        refused(floor, "switch 6", BOUNDS, () -> floor.found(6));
        refused(floor, "switch -1", BOUNDS, () -> floor.found(-1));
        SwitchFloor far = Floors.row(6, 100);
        Check.is("the longest way", 500, far.found(5));
    }

    private static void promise19Walk() {
        Check.part("promise 19");
        SwitchFloor floor = Floors.housedRow(6);
        floor.house(2, 3, 7);
        floor.send(5, 10, 0, 0);
        floor.send(0, 10, 0, 0);
        Check.is("by six switches", 6, floor.walk(0, 5));
        Check.is("and back", 6, floor.walk(5, 0));
        Check.is("from the middle", 3, floor.walk(7, 0));
        Check.is("no entry", -1, floor.walk(0, 7));
        refused(floor, "from 10", BOUNDS, () -> floor.walk(10, 10));
        refused(floor, "from -1", BOUNDS, () -> floor.walk(-1, 0));
        refused(floor, "to 10", BOUNDS, () -> floor.walk(0, 10));
        refused(floor, "to -1", BOUNDS, () -> floor.walk(0, -1));
        refused(floor, "the same, ahead of state", ARGUMENT, () -> floor.walk(9, 9));
        refused(floor, "from at no port", STATE, () -> floor.walk(9, 0));
        refused(floor, "to at no port", STATE, () -> floor.walk(0, 9));
        String before = Dump.of(floor);
        floor.walk(7, 0);
        Check.is("nothing is learned", true, before.equals(Dump.of(floor)));
        floor.plain(3, 1, 2);
        Check.is("a lane that does not go out", -1, floor.walk(0, 5));
        Check.is("nor comes in", -1, floor.walk(5, 0));
        floor.plain(3, 1, 1);
        Check.is("as before", 6, floor.walk(0, 5));
        floor.plain(0, 0, 2);
        Check.is("another lane at the start", -1, floor.walk(0, 5));
        floor.trunk(0, 0, 6, 1);
        Check.is("a native lane that is not carried", -1, floor.walk(0, 5));
        floor.trunk(0, 0, 7, 1);
        Check.is("one that is", 6, floor.walk(0, 5));
        floor.shut(4, 2);
        Check.is("a closed port at the far end", -1, floor.walk(0, 5));
        toItsOwnSwitch();
        walksBack();
    }

    private static void toItsOwnSwitch() {
        SwitchFloor floor = Floors.housedRow(2);
        floor.house(1, 3, 7);
        floor.send(7, 10, 0, 0);
        Check.is("one switch", 1, floor.walk(1, 7));
        Check.is("two switches", 2, floor.walk(0, 7));
        floor.shut(0, 0);
        Check.is("from a closed port", -1, floor.walk(0, 7));
        floor.shut(1, 3);
        Check.is("to a closed port, whose entry is gone", -1, floor.walk(1, 7));
    }

    /** A house that moved is heard at its new switch alone: the other one sends a walk back where it came from. */
    private static void walksBack() {
        SwitchFloor floor = Floors.housedRow(3);
        floor.send(2, 10, 0, 0);
        floor.free(2, 0);
        Check.is("house 2 at no port", Check.BAD_STATE, Check.outcome(() -> floor.walk(0, 2)));
        floor.house(0, 3, 2);
        Check.is("the way ends where the port lost the house", -1, floor.walk(0, 2));
        floor.plain(0, 1, 2);
        floor.send(2, 10, 0, 0);
        floor.plain(0, 1, 1);
        Check.is("heard where it is", 3, floor.table(0, 1, 2));
        Check.is("but not elsewhere", 1, floor.table(1, 1, 2));
        Check.is("from there", 1, floor.walk(0, 2));
        Check.is("from elsewhere by the old way", -1, floor.walk(1, 2));
        floor.free(1, 0);
        floor.house(2, 3, 1);
        floor.plain(1, 2, 2);
        floor.send(1, 10, 0, 0);
        floor.plain(1, 2, 1);
        Check.is("1 knows both behind 2", 2, (floor.table(1, 1, 1) == 1 ? 1 : 0) + (floor.table(1, 1, 2) == 1 ? 1 : 0));
        floor.send(2, 9, 0, 0);
        Check.is("then all know 2", 3, floor.walk(1, 2));
        Check.is("0 does not know 1", -1, floor.walk(2, 1));
    }
}
