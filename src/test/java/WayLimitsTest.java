/** The boundary cases of going on, costs, the way, and promise 12, a sentence at a time. */
public final class WayLimitsTest {
    private static final Check CHECK = new Check("WayLimitsTest");
    private static final Refusal REFUSAL = new Refusal(CHECK);
    private static final int[][] JOINS = {{3, 1}, {0, 2}, {0, 1}, {2, 3}, {0, 3}, {1, 2}};
    private static final int[] DX = {0, 1, 0, -1};
    private static final int[] DY = {-1, 0, 1, 0};
    /** What each piece becomes when the map is turned by a quarter. */
    private static final int[] TURNED = {1, 0, 5, 4, 2, 3};

    public static void main(String[] args) {
        goingOn();
        noneBeyondTheMap();
        acrossTheWholeMap();
        nothingOnTheStation();
        evenIfItCantBe();
        noWay();
        leastSumOfCostAndRest();
        leastNumberOfSeveral();
        sameWayOn();
        wayRound();
        noSuchStation();
        pieceIsNotThere();
        hasNotThisEdge();
        everyPieceBuilt();
        CHECK.end();
    }

    private static int straight(int edge) {
        return edge % 2 == 0 ? 1 : 0;
    }

    /** Every piece, with every choice of signals, on the tile across every edge of (3, 2). */
    private static void goingOn() {
        CHECK.about("Terms: going on; the opposite edge; costs 10, 7 and 5 more; one-way signals");
        for (int edge = 0; edge < 4; edge++) {
            for (int p = 0; p < 6; p++) {
                for (int signals = 0; signals < 4; signals++) {
                    goOn(edge, p, signals);
                }
            }
        }
    }

    private static void goOn(int edge, int p, int signals) {
        RailYard yard = new RailYard(8, 6);
        yard.track(3, 2, straight(edge), true);
        int x = 3 + DX[edge];
        int y = 2 + DY[edge];
        yard.track(x, y, p, true);
        for (int i = 0; i < 2; i++) {
            if ((signals >> i & 1) != 0) {
                yard.signal(x, y, p, JOINS[p][i], true);
            }
        }
        int stations = 0;
        for (int out = 0; out < 4; out++) {
            if (out == (edge + 2) % 4) {
                continue;
            }
            yard.track(x + DX[out], y + DY[out], straight(out), true);
            int s = yard.station(x + DX[out], y + DY[out], straight(out), 0);
            CHECK.due("station", s, stations++);
            CHECK.due("toGo over " + p + ", signals " + signals + ", from " + edge + " to " + out,
                yard.toGo(3, 2, straight(edge), edge, s),
                dueOver(p, signals, (edge + 2) % 4, out));
        }
    }

    private static int dueOver(int p, int signals, int in, int out) {
        int way = JOINS[p][0] == in && JOINS[p][1] == out ? 2
            : JOINS[p][1] == in && JOINS[p][0] == out ? 1 : 0;
        if (way == 0 || signals == 3 - way) {
            return -1;
        }
        return (p < 2 ? 10 : 7) + ((signals & way) != 0 ? 5 : 0) + 10;
    }

    /** A station where the way would come out if a row ran into another, or round the map. */
    private static void noneBeyondTheMap() {
        CHECK.about("Terms: none beyond the map");
        int[][] sizes = {{8, 6}, {7, 5}, {3, 3}};
        for (int[] size : sizes) {
            int right = size[0] - 1;
            int bottom = size[1] - 1;
            int[][] cases = {
                {right, 1, 1, 0, 2}, {right, 1, 1, 0, 1}, {right, 0, 1, 0, 1},
                {right, bottom, 1, 0, 0}, {0, 1, 3, right, 0}, {0, 1, 3, right, 1},
                {0, 2, 3, right, 1}, {0, 0, 3, right, bottom}, {1, 0, 0, 1, bottom},
                {1, bottom, 2, 1, 0}, {1, 0, 0, 0, bottom}, {1, bottom, 2, 2, 0}
            };
            for (int[] c : cases) {
                atTheBorder(size, c);
            }
        }
    }

    private static void atTheBorder(int[] size, int[] c) {
        RailYard yard = new RailYard(size[0], size[1]);
        int p = straight(c[2]);
        yard.track(c[0], c[1], p, true);
        yard.track(c[3], c[4], p, true);
        yard.station(c[3], c[4], p, 0);
        String from = "(" + c[0] + ", " + c[1] + ") towards " + c[2];
        CHECK.due("toGo from " + from, yard.toGo(c[0], c[1], p, c[2], 0), -1);
        yard.train(c[0], c[1], p, c[2], 1);
        yard.order(0, 0);
        CHECK.due("tick from " + from, yard.tick(5), 0);
        CHECK.due("motion", yard.motion(0), 0);
        CHECK.due("blocked", yard.blocked(), 0);
    }

    private static void acrossTheWholeMap() {
        CHECK.about("Terms: tiles 0 .. width - 1, 0 .. height - 1: the last of them too");
        int[][] sizes = {{8, 6}, {7, 5}, {3, 3}};
        for (int[] size : sizes) {
            int right = size[0] - 1;
            int bottom = size[1] - 1;
            for (int y = 0; y <= bottom; y++) {
                RailYard yard = Lay.line(new RailYard(size[0], size[1]), y, right);
                yard.station(right, y, 0, 0);
                yard.station(0, y, 0, 0);
                CHECK.due("toGo eastwards", yard.toGo(0, y, 0, 1, 0), 10 * right);
                CHECK.due("toGo westwards", yard.toGo(right, y, 0, 3, 1), 10 * right);
            }
            for (int x = 0; x <= right; x++) {
                RailYard yard = new RailYard(size[0], size[1]);
                for (int y = 0; y <= bottom; y++) {
                    yard.track(x, y, 1, true);
                }
                yard.station(x, bottom, 1, 0);
                yard.station(x, 0, 1, 0);
                CHECK.due("toGo southwards", yard.toGo(x, 0, 1, 2, 0), 10 * bottom);
                CHECK.due("toGo northwards", yard.toGo(x, bottom, 1, 0, 1), 10 * bottom);
            }
        }
    }

    private static void nothingOnTheStation() {
        CHECK.about("Terms: 0 on the station's piece");
        for (int p = 0; p < 2; p++) {
            RailYard yard = new RailYard(3, 3);
            for (int other = 0; other < 6; other++) {
                yard.track(1, 1, other, true);
            }
            yard.station(1, 1, p, 0);
            for (int other = 0; other < 6; other++) {
                for (int edge : JOINS[other]) {
                    CHECK.due("toGo from " + other + " of its tile towards " + edge,
                        yard.toGo(1, 1, other, edge, 0), other == p ? 0 : -1);
                }
            }
        }
        RailYard ring = Lay.ring(new RailYard(3, 3), 2, 2);
        ring.station(1, 0, 0, 0);
        CHECK.due("toGo on it, with a way round", ring.toGo(1, 0, 0, 1, 0), 0);
        CHECK.due("toGo from the next, all the way round",
            ring.toGo(2, 0, 3, 2, 0), 10 + 7 + 10 + 7 + 10 + 7 + 10);
        CHECK.due("toGo from the one before", ring.toGo(0, 0, 5, 1, 0), 10);
    }

    private static void evenIfItCantBe() {
        CHECK.about("12: from a piece that is run through towards an edge (even if it can't be)");
        for (int signals = 0; signals < 4; signals++) {
            RailYard yard = Lay.line(new RailYard(8, 3), 1, 7);
            yard.station(6, 1, 0, 0);
            if ((signals & 1) != 0) {
                yard.signal(3, 1, 0, 3, true);
            }
            if ((signals & 2) != 0) {
                yard.signal(3, 1, 0, 1, true);
            }
            CHECK.due("toGo from it, signals " + signals, yard.toGo(3, 1, 0, 1, 0), 30);
            CHECK.due("toGo from the one before it", yard.toGo(2, 1, 0, 1, 0),
                signals == 1 ? -1 : signals == 0 ? 40 : 45);
        }
    }

    private static void noWay() {
        CHECK.about("Terms, 12: NONE if no way leads there");
        for (int gap = 0; gap < 8; gap++) {
            RailYard yard = Lay.line(new RailYard(8, 3), 1, 7);
            yard.station(7, 1, 0, 0);
            yard.track(gap, 1, 0, false);
            for (int x = 0; x < 7; x++) {
                int due = x == gap ? -1 : gap > x && gap < 7 ? -1 : 10 * (7 - x);
                CHECK.due("toGo over a gap", yard.toGo(x, 1, 0, 1, 0), due);
                CHECK.due("toGo away from it", yard.toGo(x, 1, 0, 3, 0), -1);
            }
        }
        RailYard still = Lay.line(new RailYard(8, 3), 1, 7);
        still.station(7, 1, 0, 0);
        still.train(2, 1, 0, 3, 1);
        still.order(0, 0);
        CHECK.due("tick: no request", still.tick(4), 0);
        CHECK.due("motion", still.motion(0), 0);
        CHECK.due("blocked: no request", still.blocked(), 0);
        CHECK.due("target", still.target(0), 0);
    }

    /**
     * From (0, 0) eastwards either straight on by 0 of (1, 0), with 47 to go from there, or down
     * the stairs by 3 of it, with 38 to go and 5 more for each signal.
     */
    private static RailYard stairs(int signals) {
        RailYard yard = Lay.build(new RailYard(5, 5), new int[][] {
            {0, 0, 0}, {1, 0, 0}, {2, 0, 0}, {3, 0, 3}, {3, 1, 1}, {3, 2, 1}, {3, 3, 1},
            {1, 0, 3}, {1, 1, 2}, {2, 1, 3}, {2, 2, 2}, {3, 2, 3}
        });
        int[][] lit = {{1, 1, 2, 1}, {2, 1, 3, 2}, {2, 2, 2, 1}};
        for (int i = 0; i < signals; i++) {
            yard.signal(lit[i][0], lit[i][1], lit[i][2], lit[i][3], true);
        }
        yard.station(3, 3, 1, 0);
        yard.train(0, 0, 0, 1, 1);
        yard.order(0, 0);
        return yard;
    }

    private static void leastSumOfCostAndRest() {
        CHECK.about("Terms: the piece behind it with the least sum of its cost and what is to go");
        for (int signals = 0; signals < 4; signals++) {
            RailYard yard = stairs(signals);
            int rest = 38 + 5 * signals;
            CHECK.due("toGo straight on", yard.toGo(1, 0, 0, 1, 0), 47);
            CHECK.due("toGo on the stairs", yard.toGo(1, 0, 3, 2, 0), rest);
            CHECK.due("toGo", yard.toGo(0, 0, 0, 1, 0), Math.min(10 + 47, 7 + rest));
            yard.tick(1);
            CHECK.due("with " + signals + " signals", yard.held(0, 0),
                signals < 3 ? Lay.code(1, 0, 3, 2) : Lay.code(1, 0, 0, 1));
        }
    }

    /** Two ways of one sum, turned by quarters so that each two bends are to be chosen from. */
    private static void leastNumberOfSeveral() {
        CHECK.about("Terms: of several the one with the least number");
        int[][] track = {
            {0, 1, 0}, {1, 1, 3}, {1, 1, 4}, {1, 0, 5}, {2, 0, 0}, {3, 0, 3}, {1, 2, 2}, {2, 2, 0},
            {3, 2, 4}, {3, 1, 2}, {3, 1, 5}, {4, 1, 0}
        };
        int side = 6;
        for (int quarters = 0; quarters < 4; quarters++) {
            RailYard yard = Lay.build(new RailYard(side, side), track);
            int[] first = track[0];
            int[] last = track[track.length - 1];
            int edge = (1 + quarters) % 4;
            yard.station(last[0], last[1], last[2], 0);
            yard.train(first[0], first[1], first[2], edge, 1);
            yard.order(0, 0);
            CHECK.due("toGo", yard.toGo(first[0], first[1], first[2], edge, 0), 48);
            yard.tick(1);
            int least = Math.min(track[1][2], track[2][2]);
            CHECK.due("the piece taken", yard.held(0, 0) / 64 % 8, least);
            CHECK.due("its tile", yard.held(0, 0) % 64, track[1][0] + 8 * track[1][1]);
            CHECK.due("up to the station", yard.held(0, 5),
                Lay.code(last[0], last[1], last[2], edge));
            track = turned(track, side);
        }
    }

    private static int[][] turned(int[][] track, int side) {
        int[][] other = new int[track.length][];
        for (int i = 0; i < track.length; i++) {
            other[i] = new int[] {side - 1 - track[i][1], track[i][0], TURNED[track[i][2]]};
        }
        return other;
    }

    private static void sameWayOn() {
        CHECK.about("Terms: from that on in the same way, up to the station's piece");
        RailYard yard = Lay.ring(new RailYard(8, 6), 7, 5);
        yard.station(0, 3, 1, 0);
        yard.station(4, 0, 0, 0);
        yard.train(1, 0, 0, 1, 1);
        yard.order(0, 0);
        yard.tick(1);
        int[][] round = Lay.round(7, 5);
        int k = 0;
        for (int i = 1; i < round.length && k >= 0; i++) {
            int[] run = round[i];
            CHECK.due("held(0, " + k + ")", yard.held(0, k),
                Lay.code(run[0], run[1], run[2], run[3]));
            k = run[0] == 0 && run[1] == 3 ? -1 : k + 1;
        }
        CHECK.due("it came to the station", k, -1);
        CHECK.due("ahead", yard.motion(0), 1019);
        CHECK.due("no more", yard.held(0, 20), -1);
    }

    /** A ring of 12 with a signal opposite the station, on which a train has loaded. */
    private static RailYard loadedOnARing(boolean whole) {
        RailYard yard = Lay.ring(new RailYard(4, 4), 3, 3);
        yard.station(1, 0, 0, 1);
        yard.signal(2, 3, 0, 3, true);
        if (!whole) {
            yard.track(0, 1, 1, false);
        }
        yard.train(1, 0, 0, 1, 1);
        yard.order(0, 0);
        yard.tick(3);
        return yard;
    }

    private static void wayRound() {
        CHECK.about("Terms: from a piece on (which may be the station's own, for a way round)");
        RailYard yard = loadedOnARing(true);
        CHECK.due("toGo", yard.toGo(1, 0, 0, 1, 0), 0);
        CHECK.due("tick(1): it goes round", yard.tick(1), 1);
        CHECK.due("up to the signal", yard.motion(0), 1005);
        CHECK.due("its last ahead", yard.held(0, 5), Lay.code(2, 3, 0, 3));
        int[] motion = {2009, 3006, 3003, 2001, 20000, 10000, 0};
        for (int due : motion) {
            yard.tick(1);
            CHECK.due("motion round the ring", yard.motion(0), due);
        }
        CHECK.due("it is back", yard.held(0, 0), Lay.code(1, 0, 0, 1));
        CHECK.due("delivered, what it loaded first", yard.delivered(), 3);
        CHECK.due("load, what has come since", yard.load(0), 8);
        RailYard gap = loadedOnARing(false);
        CHECK.due("toGo", gap.toGo(1, 0, 0, 1, 0), 0);
        CHECK.due("tick(5): there is no way round", gap.tick(5), 0);
        CHECK.due("motion", gap.motion(0), 0);
        CHECK.due("blocked", gap.blocked(), 0);
    }

    private static void noSuchStation() {
        CHECK.about("12: NONE when there is no such station");
        int[] none = {-1, 2, 3, 5, 6, 64, Integer.MIN_VALUE, Integer.MAX_VALUE};
        for (int s : none) {
            REFUSAL.of("toGo to " + s, () -> Lay.busy(8, 6), it -> it.toGo(1, 0, 0, 1, s), -1);
        }
        CHECK.due("toGo to 0", Lay.busy(8, 6).toGo(1, 0, 0, 1, 0), 10);
        CHECK.due("toGo to 1, the last", Lay.busy(8, 6).toGo(3, 5, 0, 3, 1), 10);
        RailYard six = Lay.line(new RailYard(8, 3), 1, 7);
        CHECK.due("toGo without stations", six.toGo(7, 1, 0, 3, 0), -1);
        for (int s = 0; s < 6; s++) {
            CHECK.due("toGo before it is there", six.toGo(7, 1, 0, 3, s), -1);
            six.station(s, 1, 0, 0);
            CHECK.due("toGo to " + s, six.toGo(7, 1, 0, 3, s), 70 - 10 * s);
        }
        CHECK.due("toGo to 6", six.toGo(7, 1, 0, 3, 6), -1);
    }

    private static void pieceIsNotThere() {
        CHECK.about("12: NONE when the piece is not there");
        int[] none = {-1, 1, 2, 3, 4, 5, 6, 7, 64, -64, Integer.MIN_VALUE, Integer.MAX_VALUE};
        for (int p : none) {
            for (int edge = 0; edge < 4; edge++) {
                int e = edge;
                REFUSAL.of("toGo from " + p, () -> Lay.busy(8, 6),
                    it -> it.toGo(1, 0, p, e, 0), -1);
            }
        }
        REFUSAL.of("toGo from no track", () -> Lay.busy(8, 6), it -> it.toGo(4, 2, 0, 1, 0), -1);
        REFUSAL.nothingChanged("toGo", () -> Lay.busy(8, 6), it -> it.toGo(1, 0, 0, 1, 0));
    }

    private static void hasNotThisEdge() {
        CHECK.about("12: NONE when the piece has not this edge");
        int[] none = {0, 2, -1, 4, 5, 7, 35, Integer.MIN_VALUE, Integer.MAX_VALUE};
        for (int e : none) {
            REFUSAL.of("toGo towards " + e, () -> Lay.busy(8, 6), it -> it.toGo(1, 0, 0, e, 0), -1);
            REFUSAL.of("toGo on the station towards " + e, () -> Lay.busy(8, 6),
                it -> it.toGo(2, 0, 0, e, 0), -1);
        }
        for (int p = 0; p < 6; p++) {
            RailYard yard = new RailYard(3, 3);
            yard.track(1, 1, p, true);
            for (int edge = 0; edge < 4; edge++) {
                int x = 1 + DX[edge];
                int y = 1 + DY[edge];
                yard.track(x, y, straight(edge), true);
                yard.station(x, y, straight(edge), 0);
            }
            for (int edge = 0; edge < 4; edge++) {
                boolean has = JOINS[p][0] == edge || JOINS[p][1] == edge;
                CHECK.due("toGo from " + p + " towards " + edge,
                    yard.toGo(1, 1, p, edge, edge), has ? 10 : -1);
            }
        }
    }

    /** All 288 pieces, where ways branch at each of them: against the plain model. */
    private static void everyPieceBuilt() {
        CHECK.about("Terms: the least sum, of several the least number: on the fullest map");
        for (int corner = 0; corner < 4; corner++) {
            RailYard yard = new RailYard(8, 6);
            PlainYard plain = new PlainYard(8, 6);
            for (int i = 0; i < 8 * 6 * 6; i++) {
                yard.track(i % 8, i / 8 % 6, i / 48, true);
                plain.track(i % 8, i / 8 % 6, i / 48, true);
            }
            int x = corner % 2 * 7;
            int y = corner / 2 * 5;
            yard.station(x, y, corner % 2, 0);
            plain.station(x, y, corner % 2, 0);
            for (int i = 0; i < 8 * 6; i++) {
                int p = (i + corner) % 6;
                for (int edge : JOINS[p]) {
                    CHECK.due("toGo", yard.toGo(i % 8, i / 8, p, edge, 0),
                        plain.toGo(i % 8, i / 8, p, edge, 0));
                }
            }
            yard.train(7 - x, 5 - y, 0, 3 - corner % 2 * 2, 1);
            plain.train(7 - x, 5 - y, 0, 3 - corner % 2 * 2, 1);
            yard.order(0, 0);
            plain.order(0, 0);
            CHECK.due("tick(1)", yard.tick(1), plain.tick(1));
            for (int k = 0; k < 20; k++) {
                CHECK.due("held(0, " + k + ")", yard.held(0, k), plain.held(0, k));
            }
        }
    }
}
