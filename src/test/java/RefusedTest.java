import java.util.ArrayList;
import java.util.HashSet;
import java.util.List;
import java.util.Set;

/**
 * Every call with every mix of arguments at and beside their least and greatest values, and far outside: which are
 * refused, with the exception that goes first if several apply, and that nothing at all has changed by them.
 */
public final class RefusedTest {
    private static final long BOUNDS = Check.OUT_OF_BOUNDS;
    private static final long ARGUMENT = Check.BAD_ARGUMENT;
    private static final long STATE = Check.BAD_STATE;
    private static final long ALLOWED = 0;

    private static final int LOW = Integer.MIN_VALUE;
    private static final int HIGH = Integer.MAX_VALUE;
    private static final int[] SWITCHES = {LOW, -1, 0, 5, 6, HIGH};
    private static final int[] PORTS = {LOW, -1, 0, 1, 4, 5, HIGH};
    private static final int[] HOUSES = {LOW, -1, 0, 8, 9, 10, HIGH};
    private static final int[] RECEIVERS = {LOW, -1, 0, 8, 9, 10, 11, HIGH};
    private static final int[] COSTS = {LOW, 0, 1, 100, 101, HIGH};
    private static final int[] RANKS = {LOW, -1, 0, 15, 16, HIGH};
    private static final int[] GUARDS = {LOW, -1, 0, 2, 3, HIGH};
    private static final int[] LANES = {LOW, -1, 0, 1, 3, 4, HIGH};
    private static final int[] LANE_SETS = {LOW, -1, 0, 1, 7, 8, HIGH};
    private static final int[] TAGS = {LOW, -1, 0, 1, 3, 4, HIGH};
    private static final int[] LIMITS = {LOW, -1, 0, 1, 100, 101, HIGH};
    private static final int[] BEATS = {LOW, -1, 0, 1, 30, 31, HIGH};
    private static final int[] HELD = {LOW, -1, 0, 4, 5, HIGH};
    private static final int[] OF_PORTS = {LOW, -1, 0, 3, 4, HIGH};

    /** So many refused calls go to one floor: with those that make it and those that look, below 512. */
    private static final int BATCH = 25;

    private interface Asked {
        long on(SwitchFloor floor, int[] with);
    }

    private interface Rule {
        long due(int[] with);
    }

    private static String[] untouched;

    public static void main(String[] args) {
        Doc.terms("IndexOutOfBoundsException is thrown for a switch, port, house or lane that does not exist; "
                + "IllegalArgumentException for another argument out of range; and IllegalStateException if a call is "
                + "not possible now.");
        Doc.terms("If several apply, IndexOutOfBoundsException goes first, then IllegalArgumentException. "
                + "A call that throws an exception changes nothing.");
        untouched = new String[Views.COUNT];
        for (int view = 0; view < Views.COUNT; view++) {
            untouched[view] = Views.of(busy(), view);
        }
        wiresAndHouses();
        settings();
        lanes();
        limitAndBeat();
        frames();
        asking();
        Check.end();
    }

    /** A floor on which all is under way: wires, houses, heard ones, tags, a storm, a guard, and ports that wait. */
    private static SwitchFloor busy() {
        SwitchFloor floor = Floors.row(3, 5);
        floor.house(0, 0, 0);
        floor.house(1, 0, 1);
        floor.house(2, 0, 9);
        floor.beat(3);
        floor.trunk(0, 1, 7, 2);
        floor.trunk(1, 2, 7, 2);
        floor.send(0, 10, 0, 0);
        floor.send(9, 10, 0, 0);
        floor.beat(2);
        floor.limit(2);
        floor.house(0, 3, 3);
        for (int i = 0; i < 3; i++) {
            floor.send(3, 10, 0, 0);
        }
        floor.rank(5, 3);
        floor.guard(5, 0, 1);
        floor.shut(2, 4);
        floor.wire(3, 1, 4, 1, 9);
        floor.beat(1);
        return floor;
    }

    private static boolean isTaken(int one, int port) {
        switch (one) {
            case 0:
                return port == 0 || port == 1 || port == 3;
            case 1:
            case 2:
                return port == 0 || port == 2 || port == 1 && one == 1;
            default:
                return port == 1 && one < 5;
        }
    }

    private static boolean isHoused(int house) {
        return house == 0 || house == 1 || house == 3 || house == 9;
    }

    private static boolean in(int value, int least, int most) {
        return least <= value && value <= most;
    }

    private static boolean isPort(int one, int port) {
        return in(one, 0, 5) && in(port, 0, 4);
    }

    private static long due(boolean exists, boolean inRange, boolean possible) {
        return !exists ? BOUNDS : !inRange ? ARGUMENT : !possible ? STATE : ALLOWED;
    }

    // ---- the calls

    private static void wiresAndHouses() {
        each(2, "wire", new int[][] {SWITCHES, PORTS, SWITCHES, PORTS, COSTS},
                (floor, with) -> floor.wire(with[0], with[1], with[2], with[3], with[4]),
                with -> due(isPort(with[0], with[1]) && isPort(with[2], with[3]),
                        with[0] != with[2] && in(with[4], 1, 100),
                        !isTaken(with[0], with[1]) && !isTaken(with[2], with[3])));
        each(3, "free", new int[][] {SWITCHES, PORTS},
                (floor, with) -> floor.free(with[0], with[1]),
                with -> due(isPort(with[0], with[1]), true, isTaken(with[0], with[1])));
        each(4, "house", new int[][] {SWITCHES, PORTS, HOUSES},
                (floor, with) -> floor.house(with[0], with[1], with[2]),
                with -> due(isPort(with[0], with[1]) && in(with[2], 0, 9), true,
                        !isTaken(with[0], with[1]) && !isHoused(with[2])));
    }

    private static void settings() {
        each(5, "rank", new int[][] {SWITCHES, RANKS},
                (floor, with) -> floor.rank(with[0], with[1]),
                with -> due(in(with[0], 0, 5), in(with[1], 0, 15), true));
        each(6, "shut", new int[][] {SWITCHES, PORTS},
                (floor, with) -> floor.shut(with[0], with[1]) ? 1 : 0,
                with -> due(isPort(with[0], with[1]), true, true));
        each(7, "guard", new int[][] {SWITCHES, PORTS, GUARDS},
                (floor, with) -> floor.guard(with[0], with[1], with[2]),
                with -> due(isPort(with[0], with[1]), in(with[2], 0, 2), true));
    }

    private static void lanes() {
        each(8, "plain", new int[][] {SWITCHES, PORTS, LANES},
                (floor, with) -> {
                    floor.plain(with[0], with[1], with[2]);
                    return 0;
                },
                with -> due(isPort(with[0], with[1]) && in(with[2], 1, 3), true, true));
        each(9, "trunk", new int[][] {SWITCHES, PORTS, LANE_SETS, LANES},
                (floor, with) -> {
                    floor.trunk(with[0], with[1], with[2], with[3]);
                    return 0;
                },
                with -> due(isPort(with[0], with[1]) && in(with[3], 1, 3), in(with[2], 1, 7), true));
    }

    private static void limitAndBeat() {
        each(10, "limit", new int[][] {LIMITS},
                (floor, with) -> floor.limit(with[0]),
                with -> due(true, in(with[0], 1, 100), true));
        each(11, "beat", new int[][] {BEATS},
                (floor, with) -> floor.beat(with[0]),
                with -> due(true, in(with[0], 1, 30), true));
    }

    private static void frames() {
        each(12, "send", new int[][] {HOUSES, RECEIVERS, TAGS, TAGS},
                (floor, with) -> floor.send(with[0], with[1], with[2], with[3]),
                with -> due(in(with[0], 0, 9) && in(with[1], 0, 10),
                        with[0] != with[1] && in(with[2], 0, 3) && in(with[3], 0, with[2] == 0 ? 0 : 3),
                        isHoused(with[0])));
        each(19, "walk", new int[][] {HOUSES, HOUSES},
                (floor, with) -> floor.walk(with[0], with[1]),
                with -> due(in(with[0], 0, 9) && in(with[1], 0, 9), with[0] != with[1],
                        isHoused(with[0]) && isHoused(with[1])));
    }

    private static void asking() {
        each(13, "holds", new int[][] {SWITCHES, HELD},
                (floor, with) -> floor.holds(with[0], with[1]),
                with -> due(in(with[0], 0, 5), in(with[1], 0, 4), true));
        each(14, "port", new int[][] {SWITCHES, PORTS, OF_PORTS},
                (floor, with) -> floor.port(with[0], with[1], with[2]),
                with -> due(isPort(with[0], with[1]), in(with[2], 0, 3), true));
        each(15, "table", new int[][] {SWITCHES, LANES, HOUSES},
                (floor, with) -> floor.table(with[0], with[1], with[2]),
                with -> due(in(with[0], 0, 5) && in(with[1], 1, 3) && in(with[2], 0, 9), true, true));
        each(16, "got", new int[][] {HOUSES, {0, 1}},
                (floor, with) -> floor.got(with[0], with[1] == 1),
                with -> due(in(with[0], 0, 9), true, true));
        each(18, "found", new int[][] {SWITCHES},
                (floor, with) -> floor.found(with[0]),
                with -> due(in(with[0], 0, 5), true, true));
    }

    // ---- how they are tried

    private static void each(int promise, String call, int[][] values, Asked asked, Rule rule) {
        Check.part(call);
        List<int[]> batch = new ArrayList<>();
        Set<Long> kinds = new HashSet<>();
        int mixes = 1;
        for (int[] row : values) {
            mixes *= row.length;
        }
        for (int mix = 0; mix < mixes; mix++) {
            int[] with = mixOf(values, mix);
            long due = rule.due(with);
            if (due == ALLOWED) {
                long answer = Check.outcome(() -> asked.on(busy(), with));
                Check.is(shown(call, with) + " is refused", false, Check.isThrown(answer));
            } else {
                kinds.add(due);
                batch.add(with);
            }
            if (batch.size() == BATCH || mix == mixes - 1) {
                refuseAll(promise, call, batch, asked, rule);
                batch.clear();
            }
        }
        throwsWhatThePromiseTells(promise, kinds);
    }

    private static String nameOf(long due) {
        return Check.named(due).replace("throws.", "");
    }

    private static void throwsWhatThePromiseTells(int promise, Set<Long> kinds) {
        Check.part("promise " + promise);
        for (long kind : new long[] {BOUNDS, ARGUMENT, STATE}) {
            boolean told = !Doc.throwsLine(promise, nameOf(kind)).isEmpty();
            Check.is("it tells of " + nameOf(kind), kinds.contains(kind), told);
        }
    }

    private static int[] mixOf(int[][] values, int mix) {
        int[] with = new int[values.length];
        int rest = mix;
        for (int i = 0; i < values.length; i++) {
            with[i] = values[i][rest % values[i].length];
            rest /= values[i].length;
        }
        return with;
    }

    private static void refuseAll(int promise, String call, List<int[]> batch, Asked asked, Rule rule) {
        for (int view = 0; view < Views.COUNT; view++) {
            SwitchFloor floor = busy();
            for (int[] with : batch) {
                Check.part(Doc.throwsLine(promise, nameOf(rule.due(with))));
                Check.is(shown(call, with), rule.due(with), Check.outcome(() -> asked.on(floor, with)));
            }
            Check.part("A call that throws an exception changes nothing.");
            Check.is("nothing has changed by refused calls of " + call + ", view " + view, true,
                    untouched[view].equals(Views.of(floor, view)));
        }
    }

    private static String shown(String call, int[] with) {
        StringBuilder text = new StringBuilder(call).append('(');
        for (int i = 0; i < with.length; i++) {
            text.append(i == 0 ? "" : ", ").append(with[i]);
        }
        return text.append(')').toString();
    }
}
