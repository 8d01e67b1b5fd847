/**
 * What shows of a floor, as texts. Each view is for a floor of its own, as some change it by asking: what is set,
 * what frames do, and what beats bring show by that alone. A view takes fewer than 460 calls, so that a floor that
 * was made by some fifty calls stays within its 512.
 */
final class Views {
    static final int COUNT = 4;

    private static final int BEATS = 6;

    private Views() {
    }

    static String of(SwitchFloor floor, int view) {
        switch (view) {
            case 0:
                return Dump.of(floor);
            case 1:
                return settings(floor);
            case 2:
                return frames(floor);
            default:
                return beats(floor);
        }
    }

    private static String settings(SwitchFloor floor) {
        StringBuilder text = new StringBuilder("limit ").append(floor.limit(1)).append(" ranks and guards");
        for (int one = 0; one < 6; one++) {
            text.append(' ').append(floor.rank(one, 0)).append(':');
            for (int port = 0; port < 5; port++) {
                text.append(floor.guard(one, port, 0));
            }
        }
        text.append("\nwires and houses");
        for (int spot = 0; spot < 25; spot++) {
            int one = spot / 5;
            int port = spot % 5;
            add(text, () -> floor.wire(one, port, one + 1, port, 1));
        }
        for (int house = 0; house < 10; house++) {
            int other = house;
            add(text, () -> floor.house(other % 6, 4, other));
        }
        return text.toString();
    }

    private static String frames(SwitchFloor floor) {
        StringBuilder text = new StringBuilder("frames");
        for (int i = 0; i < 40; i++) {
            int from = i / 4;
            int tag = i % 4;
            add(text, () -> floor.send(from, 10, tag, 0));
        }
        for (int one = 0; one < 6; one++) {
            Dump.addSwitch(floor, one, text.append('\n'));
        }
        return text.toString();
    }

    private static String beats(SwitchFloor floor) {
        StringBuilder text = new StringBuilder();
        for (int beat = 0; beat < BEATS; beat++) {
            text.append("\nbeat ").append(floor.beat(1)).append(" rest ").append(floor.isAtRest()).append(' ');
            for (int one = 0; one < 6; one++) {
                text.append(' ').append(floor.holds(one, 4)).append(':');
                for (int port = 0; port < 5; port++) {
                    text.append(floor.port(one, port, 0)).append(floor.port(one, port, 2));
                }
            }
        }
        return text.toString();
    }

    private static void add(StringBuilder text, Check.Call call) {
        text.append(' ').append(Check.named(Check.outcome(call)));
    }
}
