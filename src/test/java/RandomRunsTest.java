import java.util.ArrayList;
import java.util.Random;

/**
 * Long runs of calls, drawn from fixed seeds, on RailYard and on PlainYard: every answer, and all
 * that can be asked after it, must be the same. Arguments out of range are drawn too.
 * An argument of the program says how many runs; without it there are 400.
 */
public final class RandomRunsTest {
    private static final int RUNS = 400;
    private static final int CALLS = 512;

    private final Check check;
    private final int seed;
    private final Random random;
    private final RailYard yard;
    private final PlainYard plain;
    private int calls;

    /** What the runs came by, so that they can't go hollow unseen. */
    private static int movedPieces;
    private static int blockedTrains;
    private static int deliveredCargo;
    private static int turnedTrains;
    private static int longRows;

    private RandomRunsTest(Check check, int seed) {
        this.check = check;
        this.seed = seed;
        random = new Random(seed);
        int width = random.nextInt(12) - 1;
        int height = random.nextInt(10) - 1;
        if (seed % 3 != 0) {
            width = 3 + random.nextInt(6);
            height = 3 + random.nextInt(4);
        }
        yard = new RailYard(width, height);
        plain = new PlainYard(width, height);
    }

    public static void main(String[] args) {
        Check check = new Check("RandomRunsTest");
        int runs = args.length > 0 ? Integer.parseInt(args[0]) : RUNS;
        for (int seed = 1; seed <= runs; seed++) {
            new RandomRunsTest(check, seed).run();
        }
        check.due("pieces were moved", movedPieces > 1000, true);
        check.due("trains were blocked", blockedTrains > 100, true);
        check.due("cargo was delivered", deliveredCargo > 1000, true);
        check.due("trains were turned", turnedTrains > 100, true);
        check.due("more than six were reserved ahead", longRows > 10, true);
        check.end();
    }

    private void run() {
        switch (seed % 5) {
            case 0: break;
            case 4: layBusyRing(); break;
            case 1: layRing(); break;
            case 2: layRing(); layRing(); scatter(random.nextInt(8)); break;
            default: scatter(25 + random.nextInt(70)); break;
        }
        for (int i = random.nextInt(8); i > 0; i--) {
            station();
        }
        for (int i = random.nextInt(15); i > 0; i--) {
            signal();
        }
        for (int i = random.nextInt(9); i > 0; i--) {
            train();
        }
        for (int i = random.nextInt(20); i > 0; i--) {
            order();
        }
        if (random.nextInt(8) > 0) {
            plain.save();
            yard.save();
        }
        while (calls < CALLS) {
            anyCall();
        }
        deliveredCargo += plain.delivered;
    }

    private void anyCall() {
        int kind = random.nextInt(100);
        if (kind < 55) {
            tick();
        } else if (kind < 60) {
            track();
        } else if (kind < 64) {
            signal();
        } else if (kind < 67) {
            station();
        } else if (kind < 70) {
            train();
        } else if (kind < 78) {
            order();
        } else if (kind < 88) {
            reverse();
        } else if (kind < 98) {
            askWildly();
        } else {
            keep();
        }
    }

    /** A ring as large as the map, run through clockwise, with sidings, trains and much to do. */
    private void layBusyRing() {
        layRing(plain.width - 1, plain.height - 1);
        for (int x = 1; x < plain.width - 1; x++) {
            light(x, 0, 0, 1, random.nextInt(2));
            light(x, plain.height - 1, 0, 3, random.nextInt(2));
        }
        for (int y = 1; y < plain.height - 1; y++) {
            light(0, y, 1, 0, random.nextInt(2));
            light(plain.width - 1, y, 1, 2, random.nextInt(2));
        }
        for (int i = 0; i < 4; i++) {
            station();
            track();
        }
        for (int i = 0; i < 12; i++) {
            train();
            order();
            tick();
        }
    }

    private void light(int x, int y, int piece, int edge, int chance) {
        if (chance > 0) {
            same("signal(" + x + ", " + y + ", " + piece + ", " + edge + ", true)",
                yard.signal(x, y, piece, edge, true), plain.signal(x, y, piece, edge, true));
        }
    }

    private void layRing() {
        layRing(1 + random.nextInt(plain.width - 1), 1 + random.nextInt(plain.height - 1));
    }

    private void layRing(int right, int bottom) {
        lay(0, 0, 5);
        lay(right, 0, 3);
        lay(0, bottom, 2);
        lay(right, bottom, 4);
        for (int x = 1; x < right; x++) {
            lay(x, 0, 0);
            lay(x, bottom, 0);
        }
        for (int y = 1; y < bottom; y++) {
            lay(0, y, 1);
            lay(right, y, 1);
        }
    }

    private void scatter(int percent) {
        for (int x = 0; x < plain.width; x++) {
            for (int y = 0; y < plain.height; y++) {
                for (int piece = 0; piece < 6; piece++) {
                    if (random.nextInt(100) < percent && calls < CALLS / 2) {
                        lay(x, y, piece);
                    }
                }
            }
        }
    }

    /** Mostly one that is built. */
    private PlainYard.Piece anyPiece() {
        if (plain.built.isEmpty() || random.nextInt(8) == 0) {
            return new PlainYard.Piece(x(), y(), piece());
        }
        return new ArrayList<>(plain.built.keySet()).get(random.nextInt(plain.built.size()));
    }

    private int x() {
        return random.nextInt(30) == 0 ? wild() : random.nextInt(plain.width);
    }

    private int y() {
        return random.nextInt(30) == 0 ? wild() : random.nextInt(plain.height);
    }

    private int piece() {
        return random.nextInt(30) == 0 ? wild() : random.nextInt(6);
    }

    private int edge() {
        return random.nextInt(30) == 0 ? wild() : random.nextInt(4);
    }

    private int number() {
        return random.nextInt(30) == 0 ? wild() : random.nextInt(6);
    }

    private int wild() {
        int[] some = {-1, -2, 3, 6, 7, 8, 9, 64, 512, Integer.MAX_VALUE, Integer.MIN_VALUE};
        return some[random.nextInt(some.length)];
    }

    private void same(String call, long got, long want) {
        calls++;
        check.due("seed " + seed + ", call " + calls + ": " + call, got, want);
        askAll();
    }

    private void same(String call, boolean got, boolean want) {
        same(call, got ? 1L : 0L, want ? 1L : 0L);
    }

    private void lay(int x, int y, int piece) {
        same("track(" + x + ", " + y + ", " + piece + ", true)",
            yard.track(x, y, piece, true), plain.track(x, y, piece, true));
    }

    private void track() {
        int x = x();
        int y = y();
        int piece = piece();
        boolean build = random.nextInt(4) > 0;
        same("track(" + x + ", " + y + ", " + piece + ", " + build + ")",
            yard.track(x, y, piece, build), plain.track(x, y, piece, build));
    }

    private void signal() {
        PlainYard.Piece on = anyPiece();
        int x = on.x();
        int y = on.y();
        int piece = on.number();
        int edge = edge();
        boolean put = random.nextInt(3) > 0;
        same("signal(" + x + ", " + y + ", " + piece + ", " + edge + ", " + put + ")",
            yard.signal(x, y, piece, edge, put), plain.signal(x, y, piece, edge, put));
    }

    private void station() {
        PlainYard.Piece on = anyPiece();
        int x = on.x();
        int y = on.y();
        int piece = on.number();
        int rate = random.nextInt(10) == 0 ? random.nextInt(60) - 5 : random.nextInt(20);
        same("station(" + x + ", " + y + ", " + piece + ", " + rate + ")",
            yard.station(x, y, piece, rate), plain.station(x, y, piece, rate));
    }

    private void train() {
        PlainYard.Piece on = anyPiece();
        int x = on.x();
        int y = on.y();
        int piece = on.number();
        int edge = edge();
        int length = random.nextInt(3) == 0 ? random.nextInt(7) : 1 + random.nextInt(2);
        same("train(" + x + ", " + y + ", " + piece + ", " + edge + ", " + length + ")",
            yard.train(x, y, piece, edge, length), plain.train(x, y, piece, edge, length));
    }

    private void order() {
        int t = number();
        int s = random.nextInt(4) > 0 ? random.nextInt(1 + plain.stations.size()) : number();
        same("order(" + t + ", " + s + ")", yard.order(t, s), plain.order(t, s));
    }

    private void reverse() {
        int t = number();
        boolean turned = plain.reverse(t);
        turnedTrains += turned ? 1 : 0;
        same("reverse(" + t + ")", yard.reverse(t), turned);
    }

    private void tick() {
        int n = random.nextInt(6) > 0 ? 1 : random.nextInt(24) - 1;
        int moved = plain.tick(n);
        movedPieces += Math.max(moved, 0);
        same("tick(" + n + ")", yard.tick(n), moved);
    }

    private void keep() {
        if (random.nextInt(3) > 0) {
            plain.save();
            yard.save();
        } else {
            plain.restore();
            yard.restore();
        }
        same("save or restore", 0, 0);
    }

    private void askWildly() {
        PlainYard.Piece on = anyPiece();
        int x = on.x();
        int y = on.y();
        int piece = on.number();
        int edge = edge();
        int s = number();
        same("toGo(" + x + ", " + y + ", " + piece + ", " + edge + ", " + s + ")",
            yard.toGo(x, y, piece, edge, s), plain.toGo(x, y, piece, edge, s));
        same("pieces", yard.pieces(x, y), plain.pieces(x, y));
        same("signals", yard.signals(x, y, piece), plain.signals(x, y, piece));
        same("holder", yard.holder(x, y, piece), plain.holder(x, y, piece));
        same("held", yard.held(s, edge), plain.held(s, edge));
        same("motion", yard.motion(s), plain.motion(s));
        same("load", yard.load(s), plain.load(s));
        same("target", yard.target(s), plain.target(s));
        same("waiting", yard.waiting(s), plain.waiting(s));
        int stuck = plain.blocked();
        blockedTrains += Integer.bitCount(stuck);
        same("blocked", yard.blocked(), stuck);
    }

    private void askAll() {
        String when = "seed " + seed + ", after call " + calls + ": ";
        check.due(when + "clock", yard.clock(), plain.clock);
        check.due(when + "produced", yard.produced(), plain.produced);
        check.due(when + "delivered", yard.delivered(), plain.delivered);
        for (int i = 0; i < 6; i++) {
            check.due(when + "waiting " + i, yard.waiting(i), plain.waiting(i));
            check.due(when + "motion " + i, yard.motion(i), plain.motion(i));
            check.due(when + "load " + i, yard.load(i), plain.load(i));
            check.due(when + "target " + i, yard.target(i), plain.target(i));
            int count = i < plain.trains.size() ? plain.trains.get(i).all().size() : 0;
            for (int k = 0; k <= count; k++) {
                check.due(when + "held " + i + ", " + k, yard.held(i, k), plain.held(i, k));
            }
            longRows += plain.motion(i) % 1000 > 6 ? 1 : 0;
        }
        if (calls % 16 == 0) {
            askMap(when);
        }
    }

    private void askMap(String when) {
        for (int x = 0; x < plain.width; x++) {
            for (int y = 0; y < plain.height; y++) {
                check.due(when + "pieces", yard.pieces(x, y), plain.pieces(x, y));
                for (int piece = 0; piece < 6; piece++) {
                    check.due(when + "signals", yard.signals(x, y, piece),
                        plain.signals(x, y, piece));
                    check.due(when + "holder", yard.holder(x, y, piece), plain.holder(x, y, piece));
                }
            }
        }
    }
}
