import java.util.ArrayList;
import java.util.List;
import java.util.Random;
import java.util.function.BooleanSupplier;
import java.util.function.IntSupplier;

/**
 * Runs of 512 calls, drawn from fixed seeds, on RailYard and on PlainYard: every answer must be
 * the same. Arguments out of range are drawn too, and after some of the calls, and at the end, what
 * the trains are at is asked for; at the end the map too, as far as the calls reach.
 * An argument of the program says how many runs; without it there are 3000.
 */
public final class RandomRunsTest {
    private static final int RUNS = 3000;
    /** An object is used for no more. */
    private static final int CALLS = 512;
    private static final int KEPT_FOR_THE_END = 180;

    private final Check check;
    private final int seed;
    private final Random random;
    private final RailYard yard;
    private final PlainYard plain;
    private int calls;

    /** What the runs came by, so that they can't go hollow unseen. */
    private static int movedPieces;
    private static int blockedTrains;
    private static int deliveredCargo;
    private static int turnedTrains;
    private static int longRows;

    private RandomRunsTest(Check check, int seed) {
        this.check = check;
        this.seed = seed;
        random = new Random(seed);
        int width = random.nextInt(12) - 1;
        int height = random.nextInt(10) - 1;
        if (seed % 3 != 0) {
            width = 3 + random.nextInt(6);
            height = 3 + random.nextInt(4);
        }
        yard = new RailYard(width, height);
        plain = new PlainYard(width, height);
    }

    public static void main(String[] args) {
        Check check = new Check("RandomRunsTest");
        int runs = args.length > 0 ? Integer.parseInt(args[0]) : RUNS;
        for (int seed = 1; seed <= runs; seed++) {
            new RandomRunsTest(check, seed).run();
        }
        check.due("pieces were moved", movedPieces > 20 * runs, true);
        check.due("trains were blocked", blockedTrains > runs / 10, true);
        check.due("cargo was delivered", deliveredCargo > 10 * runs, true);
        check.due("trains were turned", turnedTrains > runs, true);
        check.due("more than six were reserved ahead", longRows > runs / 10, true);
        check.end();
    }

    private void run() {
        switch (seed % 5) {
            case 0: layBusyRing(random.nextInt(3)); break;
            case 1: layRing(); break;
            case 2: layRing(); layRing(); scatter(random.nextInt(8)); break;
            case 3: scatter(25 + random.nextInt(70)); break;
            default: layBusyRing(10); break;
        }
        for (int i = random.nextInt(8); i > 0; i--) {
            station();
        }
        for (int i = random.nextInt(15); i > 0; i--) {
            signal();
        }
        for (int i = random.nextInt(9); i > 0; i--) {
            train();
        }
        for (int i = random.nextInt(20); i > 0; i--) {
            order();
        }
        if (random.nextInt(8) > 0) {
            keep(true);
        }
        while (calls < CALLS - KEPT_FOR_THE_END) {
            anyCall();
        }
        askTrains();
        askMap();
        deliveredCargo += plain.delivered;
    }

    private void anyCall() {
        int kind = random.nextInt(100);
        if (kind < 55) {
            tick();
        } else if (kind < 60) {
            track();
        } else if (kind < 64) {
            signal();
        } else if (kind < 67) {
            station();
        } else if (kind < 70) {
            train();
        } else if (kind < 78) {
            order();
        } else if (kind < 84) {
            reverse();
        } else if (kind < 90) {
            askWildly();
        } else if (kind < 93) {
            blocked();
        } else if (kind < 98) {
            askOneTrain();
        } else {
            keep(random.nextInt(3) > 0);
        }
    }

    /**
     * A ring as large as the map, run through clockwise, with a siding or two, trains and much to
     * do; about half of so many of its pieces get a signal.
     */
    private void layBusyRing(int signals) {
        int right = plain.width - 1;
        int bottom = plain.height - 1;
        layRing(right, bottom);
        int[][] round = Lay.round(right, bottom);
        for (int i = random.nextInt(signals + 1); i > 0; i--) {
            int[] on = round[random.nextInt(round.length)];
            putSignal(new PlainYard.Piece(on[0], on[1], on[2]), on[3], true);
        }
        for (int i = 0; i < 4; i++) {
            station();
            track();
        }
        for (int i = random.nextInt(4); i >= 0; i--) {
            int[] on = round[random.nextInt(round.length)];
            putTrain(on[0], on[1], on[2], on[3]);
        }
        for (int i = 0; i < 12; i++) {
            order();
            tick();
        }
    }

    private void layRing() {
        layRing(1 + random.nextInt(plain.width - 1), 1 + random.nextInt(plain.height - 1));
    }

    private void layRing(int right, int bottom) {
        lay(0, 0, 5);
        lay(right, 0, 3);
        lay(0, bottom, 2);
        lay(right, bottom, 4);
        for (int x = 1; x < right; x++) {
            lay(x, 0, 0);
            lay(x, bottom, 0);
        }
        for (int y = 1; y < bottom; y++) {
            lay(0, y, 1);
            lay(right, y, 1);
        }
    }

    private void scatter(int percent) {
        for (int x = 0; x < plain.width; x++) {
            for (int y = 0; y < plain.height; y++) {
                for (int piece = 0; piece < 6; piece++) {
                    if (random.nextInt(100) < percent && calls < CALLS / 2) {
                        lay(x, y, piece);
                    }
                }
            }
        }
    }

    /** Mostly one that is built. */
    private PlainYard.Piece anyPiece() {
        if (plain.built.isEmpty() || random.nextInt(8) == 0) {
            return new PlainYard.Piece(x(), y(), piece());
        }
        return new ArrayList<>(plain.built.keySet()).get(random.nextInt(plain.built.size()));
    }

    private int x() {
        return random.nextInt(30) == 0 ? wild() : random.nextInt(plain.width);
    }

    private int y() {
        return random.nextInt(30) == 0 ? wild() : random.nextInt(plain.height);
    }

    private int piece() {
        return random.nextInt(30) == 0 ? wild() : random.nextInt(6);
    }

    private int edge() {
        return random.nextInt(30) == 0 ? wild() : random.nextInt(4);
    }

    private int number() {
        return random.nextInt(30) == 0 ? wild() : random.nextInt(6);
    }

    /** Mostly the number of one that is there. */
    private int oneOf(int many) {
        return many == 0 || random.nextInt(8) == 0 ? number() : random.nextInt(many);
    }

    private int wild() {
        int[] some = {-1, -2, 3, 6, 7, 8, 9, 64, 512, Integer.MAX_VALUE, Integer.MIN_VALUE};
        return some[random.nextInt(some.length)];
    }

    private void same(String call, IntSupplier got, IntSupplier want) {
        if (calls < CALLS) {
            calls++;
            check.due("seed " + seed + ", call " + calls + ": " + call, got.getAsInt(),
                want.getAsInt());
        }
    }

    private void done(String call, BooleanSupplier got, BooleanSupplier want) {
        same(call, () -> got.getAsBoolean() ? 1 : 0, () -> want.getAsBoolean() ? 1 : 0);
    }

    private void lay(int x, int y, int piece) {
        done("track(" + x + ", " + y + ", " + piece + ", true)",
            () -> yard.track(x, y, piece, true), () -> plain.track(x, y, piece, true));
    }

    private void track() {
        int x = x();
        int y = y();
        int piece = piece();
        boolean build = random.nextInt(4) > 0;
        done("track(" + x + ", " + y + ", " + piece + ", " + build + ")",
            () -> yard.track(x, y, piece, build), () -> plain.track(x, y, piece, build));
    }

    private void signal() {
        PlainYard.Piece on = anyPiece();
        putSignal(on, edge(), random.nextInt(3) > 0);
    }

    private void putSignal(PlainYard.Piece on, int edge, boolean put) {
        int x = on.x();
        int y = on.y();
        int piece = on.number();
        done("signal(" + x + ", " + y + ", " + piece + ", " + edge + ", " + put + ")",
            () -> yard.signal(x, y, piece, edge, put), () -> plain.signal(x, y, piece, edge, put));
    }

    private void station() {
        PlainYard.Piece on = anyPiece();
        int x = on.x();
        int y = on.y();
        int piece = on.number();
        int rate = random.nextInt(10) == 0 ? random.nextInt(60) - 5 : random.nextInt(20);
        same("station(" + x + ", " + y + ", " + piece + ", " + rate + ")",
            () -> yard.station(x, y, piece, rate), () -> plain.station(x, y, piece, rate));
    }

    private void train() {
        PlainYard.Piece on = anyPiece();
        putTrain(on.x(), on.y(), on.number(), edge());
    }

    private void putTrain(int x, int y, int piece, int edge) {
        int length = random.nextInt(3) == 0 ? random.nextInt(7) : 1 + random.nextInt(2);
        same("train(" + x + ", " + y + ", " + piece + ", " + edge + ", " + length + ")",
            () -> yard.train(x, y, piece, edge, length),
            () -> plain.train(x, y, piece, edge, length));
    }

    private void order() {
        int t = oneOf(plain.trains.size());
        int s = oneOf(plain.stations.size());
        done("order(" + t + ", " + s + ")", () -> yard.order(t, s), () -> plain.order(t, s));
    }

    private void reverse() {
        int t = oneOf(plain.trains.size());
        done("reverse(" + t + ")", () -> yard.reverse(t), () -> {
            boolean turned = plain.reverse(t);
            turnedTrains += turned ? 1 : 0;
            return turned;
        });
    }

    private void tick() {
        int n = random.nextInt(6) > 0 ? 1 + random.nextInt(3) : random.nextInt(24) - 1;
        same("tick(" + n + ")", () -> yard.tick(n), () -> {
            int moved = plain.tick(n);
            movedPieces += Math.max(moved, 0);
            for (int t = 0; t < plain.trains.size(); t++) {
                longRows += plain.motion(t) % 1000 > 6 ? 1 : 0;
            }
            return moved;
        });
    }

    private void keep(boolean save) {
        same(save ? "save()" : "restore()", () -> {
            if (save) {
                yard.save();
            } else {
                yard.restore();
            }
            return 0;
        }, () -> {
            if (save) {
                plain.save();
            } else {
                plain.restore();
            }
            return 0;
        });
    }

    private void askWildly() {
        PlainYard.Piece on = anyPiece();
        int x = on.x();
        int y = on.y();
        int piece = on.number();
        int edge = edge();
        int s = number();
        same("toGo(" + x + ", " + y + ", " + piece + ", " + edge + ", " + s + ")",
            () -> yard.toGo(x, y, piece, edge, s), () -> plain.toGo(x, y, piece, edge, s));
        same("pieces", () -> yard.pieces(x, y), () -> plain.pieces(x, y));
        same("signals", () -> yard.signals(x, y, piece), () -> plain.signals(x, y, piece));
        same("holder", () -> yard.holder(x, y, piece), () -> plain.holder(x, y, piece));
        same("held", () -> yard.held(s, edge), () -> plain.held(s, edge));
        same("waiting", () -> yard.waiting(s), () -> plain.waiting(s));
        askOfTrain(s);
    }

    private void blocked() {
        same("blocked()", yard::blocked, () -> {
            int stuck = plain.blocked();
            blockedTrains += Integer.bitCount(stuck);
            return stuck;
        });
    }

    private void askOneTrain() {
        askOfTrain(random.nextInt(6));
        same("clock()", yard::clock, () -> plain.clock);
    }

    private void askOfTrain(int t) {
        same("motion(" + t + ")", () -> yard.motion(t), () -> plain.motion(t));
        same("load(" + t + ")", () -> yard.load(t), () -> plain.load(t));
        same("target(" + t + ")", () -> yard.target(t), () -> plain.target(t));
    }

    private void askTrains() {
        same("clock()", yard::clock, () -> plain.clock);
        same("produced()", yard::produced, () -> plain.produced);
        same("delivered()", yard::delivered, () -> plain.delivered);
        blocked();
        List<Integer> all = new ArrayList<>();
        for (int i = 0; i < 6; i++) {
            int t = i;
            same("waiting(" + t + ")", () -> yard.waiting(t), () -> plain.waiting(t));
            askOfTrain(t);
            int count = t < plain.trains.size() ? plain.trains.get(t).all().size() : 0;
            for (int j = 0; j <= count; j++) {
                int k = j;
                same("held(" + t + ", " + k + ")", () -> yard.held(t, k), () -> {
                    int held = plain.held(t, k);
                    all.add(held);
                    return held;
                });
            }
        }
        check.due("seed " + seed + ": held pieces that cross", crossings(all), 0);
    }

    /** "No piece is held by two trains, or crosses one that another train holds." */
    private static int crossings(List<Integer> held) {
        int found = 0;
        for (int i = 0; i < held.size(); i++) {
            for (int j = 0; j < i; j++) {
                int a = held.get(i) / 64 % 8;
                int b = held.get(j) / 64 % 8;
                boolean apart = a != b && (a + b == 9 || a + b == 5 && a / 2 == 1);
                boolean oneTile = held.get(i) >= 0 && held.get(j) >= 0
                    && held.get(i) % 64 == held.get(j) % 64;
                found += oneTile && !apart ? 1 : 0;
            }
        }
        return found;
    }

    private void askMap() {
        int from = random.nextInt(48);
        for (int i = 0; i < 48 && calls < CALLS; i++) {
            int x = (from + i) % 8;
            int y = (from + i) / 8 % 6;
            same("pieces", () -> yard.pieces(x, y), () -> plain.pieces(x, y));
            for (int p = 0; p < 6; p++) {
                int piece = p;
                if (plain.signals(x, y, p) >= 0) {
                    same("signals", () -> yard.signals(x, y, piece),
                        () -> plain.signals(x, y, piece));
                    same("holder", () -> yard.holder(x, y, piece),
                        () -> plain.holder(x, y, piece));
                }
            }
        }
    }
}
