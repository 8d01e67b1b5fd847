/** Floors that more than one test begins with. */
final class Floors {
    private Floors() {
    }

    /** The switches 0 to count - 1 in a row, port 1 of each to port 2 of the next, all with the cost. */
    static SwitchFloor row(int count, int cost) {
        SwitchFloor floor = new SwitchFloor();
        for (int one = 0; one + 1 < count; one++) {
            floor.wire(one, 1, one + 1, 2, cost);
        }
        return floor;
    }

    /** The row, with the house of the switch's number at port 0 of each, all ports open. */
    static SwitchFloor housedRow(int count) {
        SwitchFloor floor = row(count, 1);
        for (int one = 0; one < count; one++) {
            floor.house(one, 0, one);
        }
        floor.beat(12);
        return floor;
    }

    /**
     * Six switches in a round, with a house each, all ports open in the third beat: the dear wire from 5 to 0 is
     * given up when the fifth has told 5 that the way round is cheaper.
     */
    static SwitchFloor openRound() {
        SwitchFloor floor = row(6, 1);
        floor.wire(5, 1, 0, 2, 100);
        for (int one = 0; one < 6; one++) {
            floor.house(one, 0, one);
        }
        floor.beat(3);
        return floor;
    }

    /** Switch 0 alone, with the houses 0 to count - 1 at its ports of these numbers. */
    static SwitchFloor houses(int count) {
        SwitchFloor floor = new SwitchFloor();
        for (int house = 0; house < count; house++) {
            floor.house(0, house, house);
        }
        return floor;
    }

    /** Each switch with a wire to each other one: fifteen wires at thirty ports, so that none is left. */
    static SwitchFloor allWired() {
        SwitchFloor floor = new SwitchFloor();
        for (int one = 0; one < 6; one++) {
            for (int other = one + 1; other < 6; other++) {
                floor.wire(one, other - 1, other, one, 1);
            }
        }
        return floor;
    }
}
