/** All that a floor answers when it is asked, as one text: two floors that differ in an answer differ in it. */
final class Dump {
    private Dump() {
    }

    static String of(SwitchFloor floor) {
        StringBuilder text = new StringBuilder();
        for (int one = 0; one < 6; one++) {
            addSwitch(floor, one, text);
        }
        for (int house = 0; house < 10; house++) {
            text.append("house ").append(house).append(": got ").append(floor.got(house, false));
            text.append(" overheard ").append(floor.got(house, true)).append(" walks");
            for (int to = 0; to < 10; to++) {
                int from = house;
                int other = to;
                text.append(' ').append(Check.named(Check.outcome(() -> floor.walk(from, other))));
            }
            text.append('\n');
        }
        return text.append("rest ").append(floor.isAtRest()).append('\n').toString();
    }

    static void addSwitch(SwitchFloor floor, int one, StringBuilder text) {
        text.append("switch ").append(one).append(": found ").append(floor.found(one)).append(" holds");
        for (int what = 0; what < 5; what++) {
            text.append(' ').append(floor.holds(one, what));
        }
        for (int port = 0; port < 5; port++) {
            text.append("\n  port ").append(port).append(':');
            for (int what = 0; what < 4; what++) {
                text.append(' ').append(floor.port(one, port, what));
            }
        }
        for (int lane = 1; lane <= 3; lane++) {
            text.append("\n  lane ").append(lane).append(':');
            for (int house = 0; house < 10; house++) {
                text.append(' ').append(floor.table(one, lane, house));
            }
        }
        text.append('\n');
    }
}
