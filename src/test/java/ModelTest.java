/** Long mixed runs of calls: each answer of the program, and all that it can be asked, against the model's. */
public final class ModelTest {
    private static final int RUNS = 700;
    private static final int CALLS = 140;

    /** How a run begins: with a floor at rest, with one whose rounds are open, with trunks alone, or bare. */
    private static final int CALM = 0;
    private static final int ROUNDS = 1;
    private static final int TRUNKS = 2;

    private long seed;
    private SwitchFloor floor;
    private Model model;
    private int kind;

    public static void main(String[] args) {
        for (int run = 1; run <= RUNS; run++) {
            Check.part("run " + run);
            new ModelTest().run(run);
        }
        Check.end();
    }

    private void run(int number) {
        seed = number * 7919L;
        floor = new SwitchFloor();
        model = new Model();
        kind = below(4);
        if (kind == CALM || kind == ROUNDS) {
            wholeFloor();
        } else if (kind == TRUNKS) {
            allTrunks();
        }
        for (int call = 0; call < CALLS; call++) {
            change(call);
            if (call % 3 == 0) {
                compareAll(call);
            }
        }
    }

    private int below(int bound) {
        seed = (seed * 25214903917L + 11) & ((1L << 48) - 1);
        return (int) ((seed >>> 17) % bound);
    }

    /** Now and then a number just outside of what there is. */
    private int near(int least, int most) {
        return below(60) == 0 ? (below(2) == 0 ? least - 1 : most + 1) : least + below(most - least + 1);
    }

    private int costs() {
        return below(3) == 0 ? near(1, 100) : 1 + below(3);
    }

    private void wholeFloor() {
        for (int i = 0; i < 14; i++) {
            int one = below(6);
            int port = 1 + below(4);
            int other = below(6);
            int otherPort = 1 + below(4);
            int cost = kind == CALM ? 1 : costs();
            both("wire " + one + port + other + otherPort, () -> floor.wire(one, port, other, otherPort, cost),
                    () -> model.wire(one, port, other, otherPort, cost));
        }
        for (int i = 0; i < 6; i++) {
            int one = i;
            both("house", () -> floor.house(one, 0, one), () -> model.house(one, 0, one));
        }
        both("limit", () -> floor.limit(100), () -> model.limit(100));
        int beats = kind == CALM ? 12 : 3;
        both("beat", () -> floor.beat(beats), () -> model.beat(beats));
        for (int i = 0; i < 6; i++) {
            int from = i;
            both("first send of " + from, () -> floor.send(from, 10, 0, 0), () -> model.send(from, 10, 0, 0));
        }
        compareAll(-1);
    }

    private void allTrunks() {
        for (int i = 0; i < 30; i++) {
            int one = i / 5;
            int port = i % 5;
            both("trunk", () -> done(() -> floor.trunk(one, port, 7, 1)), () -> done(() -> model.trunk(one, port, 7, 1)));
        }
    }

    private void both(String call, Check.Call program, Check.Call document) {
        Check.is(call, Check.outcome(document), Check.outcome(program));
    }

    private void change(int call) {
        int what = below(100);
        String at = "call " + call + ", ";
        if (what < 46) {
            sendOrBeat(at, what);
        } else if (what < 70) {
            changeWires(at, what);
        } else {
            changeSettings(at, what);
        }
    }

    private void sendOrBeat(String at, int what) {
        if (what < 32) {
            int from = near(0, 9);
            int to = near(0, 10);
            int tag = below(2) == 0 ? 0 : near(0, 3);
            int second = tag == 0 && below(9) > 0 ? 0 : near(0, 3);
            both(at + "send(" + from + ", " + to + ", " + tag + ", " + second + ")",
                    () -> floor.send(from, to, tag, second), () -> model.send(from, to, tag, second));
        } else {
            int beats = below(9) == 0 ? near(1, 30) : 1 + below(3);
            both(at + "beat(" + beats + ")", () -> floor.beat(beats), () -> model.beat(beats));
        }
    }

    private void changeWires(String at, int what) {
        int one = near(0, 5);
        int port = near(0, 4);
        int other = near(0, 5);
        int otherPort = near(0, 4);
        int cost = costs();
        int house = near(0, 9);
        if (what < 58) {
            both(at + "wire(" + one + ", " + port + ", " + other + ", " + otherPort + ", " + cost + ")",
                    () -> floor.wire(one, port, other, otherPort, cost),
                    () -> model.wire(one, port, other, otherPort, cost));
        } else if (what < 67) {
            both(at + "house(" + one + ", " + port + ", " + house + ")",
                    () -> floor.house(one, port, house), () -> model.house(one, port, house));
        } else {
            both(at + "free(" + one + ", " + port + ")", () -> floor.free(one, port), () -> model.free(one, port));
        }
    }

    private void changeSettings(String at, int what) {
        int one = near(0, 5);
        int port = near(0, 4);
        int value = near(0, 15);
        int guard = below(2) == 0 ? 0 : near(0, 2);
        int lane = near(1, 3);
        int lanes = below(2) == 0 ? 7 : near(1, 7);
        int limit = below(3) == 0 ? near(1, 100) : kind <= ROUNDS ? 100 : 1 + below(8);
        if (what < 74) {
            both(at + "rank(" + one + ", " + value + ")",
                    () -> floor.rank(one, value), () -> model.rank(one, value));
        } else if (what < 80) {
            both(at + "shut(" + one + ", " + port + ")",
                    () -> floor.shut(one, port) ? 1 : 0, () -> model.shut(one, port) ? 1 : 0);
        } else if (what < 86) {
            both(at + "guard(" + one + ", " + port + ", " + guard + ")",
                    () -> floor.guard(one, port, guard), () -> model.guard(one, port, guard));
        } else if (what < 89) {
            both(at + "plain(" + one + ", " + port + ", " + lane + ")",
                    () -> done(() -> floor.plain(one, port, lane)), () -> done(() -> model.plain(one, port, lane)));
        } else if (what < 97) {
            both(at + "trunk(" + one + ", " + port + ", " + lanes + ", " + lane + ")",
                    () -> done(() -> floor.trunk(one, port, lanes, lane)),
                    () -> done(() -> model.trunk(one, port, lanes, lane)));
        } else {
            both(at + "limit(" + limit + ")", () -> floor.limit(limit), () -> model.limit(limit));
        }
    }

    private static long done(Runnable call) {
        call.run();
        return 0;
    }

    private void compareAll(int call) {
        String at = "call " + call + ", ";
        for (int s = 0; s < 6; s++) {
            int one = s;
            both(at + "found(" + one + ")", () -> floor.found(one), () -> model.found(one));
            for (int w = 0; w < 5; w++) {
                int what = w;
                both(at + "holds(" + one + ", " + what + ")",
                        () -> floor.holds(one, what), () -> model.holds(one, what));
            }
            for (int i = 0; i < 20; i++) {
                int port = i / 4;
                int what = i % 4;
                both(at + "port(" + one + ", " + port + ", " + what + ")",
                        () -> floor.port(one, port, what), () -> model.port(one, port, what));
            }
            for (int i = 0; i < 30; i++) {
                int lane = i / 10 + 1;
                int house = i % 10;
                both(at + "table(" + one + ", " + lane + ", " + house + ")",
                        () -> floor.table(one, lane, house), () -> model.table(one, lane, house));
            }
        }
        for (int i = 0; i < 100; i++) {
            int from = i / 10;
            int to = i % 10;
            both(at + "walk(" + from + ", " + to + ")", () -> floor.walk(from, to), () -> model.walk(from, to));
        }
        for (int i = 0; i < 20; i++) {
            int house = i / 2;
            boolean overheard = i % 2 == 1;
            both(at + "got(" + house + ", " + overheard + ")",
                    () -> floor.got(house, overheard), () -> model.got(house, overheard));
        }
        Check.is(at + "isAtRest()", model.isAtRest(), floor.isAtRest());
    }
}
