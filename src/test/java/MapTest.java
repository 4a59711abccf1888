/** Promises 1 (a new object), 2 track, 3 signal, 9 pieces and 10 signals. */
public final class MapTest {
    private static final Check CHECK = new Check("MapTest");
    private static final int[][] EDGES = {{3, 1}, {0, 2}, {0, 1}, {2, 3}, {0, 3}, {1, 2}};

    public static void main(String[] args) {
        sizes();
        nothingAtFirst();
        building();
        takingAway();
        heldTiles();
        stationsKeepTheirPiece();
        signalsOfEachPiece();
        signalsRefused();
        CHECK.end();
    }

    private static void sizes() {
        int[][] cases = {
            {3, 3, 3, 3}, {5, 4, 5, 4}, {8, 6, 8, 6}, {2, 2, 3, 3}, {9, 7, 8, 6}, {0, 9, 3, 6},
            {-1, 5, 3, 5}, {Integer.MIN_VALUE, Integer.MAX_VALUE, 3, 6},
            {Integer.MAX_VALUE, Integer.MIN_VALUE, 8, 3}
        };
        for (int[] c : cases) {
            RailYard yard = new RailYard(c[0], c[1]);
            String size = "new RailYard(" + c[0] + ", " + c[1] + ") ";
            CHECK.due(size + "has its last tile", yard.pieces(c[2] - 1, c[3] - 1), 0);
            CHECK.due(size + "ends in the east", yard.pieces(c[2], 0), -1);
            CHECK.due(size + "ends in the south", yard.pieces(0, c[3]), -1);
            CHECK.due(size + "ends in the west", yard.pieces(-1, 0), -1);
            CHECK.due(size + "ends in the north", yard.pieces(0, -1), -1);
        }
    }

    private static void nothingAtFirst() {
        RailYard yard = new RailYard(8, 6);
        for (int x = 0; x < 8; x++) {
            for (int y = 0; y < 6; y++) {
                CHECK.due("no track at first", yard.pieces(x, y), 0);
            }
        }
        CHECK.due("produced() at first", yard.produced(), 0);
        CHECK.due("delivered() at first", yard.delivered(), 0);
        CHECK.due("clock() at first", yard.clock(), 0);
        CHECK.due("blocked() at first", yard.blocked(), 0);
        CHECK.due("motion(0) at first", yard.motion(0), -1);
        CHECK.due("waiting(0) at first", yard.waiting(0), -1);
    }

    private static void building() {
        RailYard yard = new RailYard(4, 4);
        int sum = 0;
        for (int piece = 0; piece < 6; piece++) {
            CHECK.due("track: build", yard.track(1, 2, piece, true), true);
            CHECK.due("track: build again", yard.track(1, 2, piece, true), false);
            sum += 1 << piece;
            CHECK.due("pieces(1, 2)", yard.pieces(1, 2), sum);
        }
        CHECK.due("pieces(2, 1)", yard.pieces(2, 1), 0);
        CHECK.due("track: piece 6", yard.track(1, 1, 6, true), false);
        CHECK.due("track: piece -1", yard.track(1, 1, -1, true), false);
        CHECK.due("track: x 4", yard.track(4, 1, 0, true), false);
        CHECK.due("track: x -1", yard.track(-1, 1, 0, true), false);
        CHECK.due("track: y 4", yard.track(1, 4, 0, true), false);
        CHECK.due("track: y -1", yard.track(1, -1, 0, true), false);
        CHECK.due("track: far off", yard.track(1 << 30, 1 << 30, 1 << 30, true), false);
        CHECK.due("nothing was built", yard.pieces(1, 1), 0);
    }

    private static void takingAway() {
        RailYard yard = new RailYard(4, 4);
        CHECK.due("track: none to take", yard.track(1, 1, 3, false), false);
        yard.track(1, 1, 3, true);
        yard.track(1, 1, 0, true);
        yard.signal(1, 1, 3, 2, true);
        yard.signal(1, 1, 3, 3, true);
        yard.signal(1, 1, 0, 1, true);
        CHECK.due("track: take", yard.track(1, 1, 3, false), true);
        CHECK.due("pieces left", yard.pieces(1, 1), 1);
        CHECK.due("signals of what is gone", yard.signals(1, 1, 3), -1);
        CHECK.due("signals of the other", yard.signals(1, 1, 0), 2);
        CHECK.due("track: take again", yard.track(1, 1, 3, false), false);
        CHECK.due("track: build anew", yard.track(1, 1, 3, true), true);
        CHECK.due("its signals went with it", yard.signals(1, 1, 3), 0);
        CHECK.due("track: take from no tile", yard.track(4, 1, 3, false), false);
        CHECK.due("track: take no piece", yard.track(1, 1, 6, false), false);
    }

    private static void heldTiles() {
        RailYard yard = Lay.line(new RailYard(8, 3), 1, 7);
        yard.track(2, 1, 3, true);
        yard.station(7, 1, 0, 0);
        CHECK.due("train", yard.train(2, 1, 0, 1, 1), 0);
        CHECK.due("track: build beside a train", yard.track(2, 1, 1, true), false);
        CHECK.due("track: take beside a train", yard.track(2, 1, 3, false), false);
        CHECK.due("signal beside a train", yard.signal(2, 1, 3, 2, true), false);
        CHECK.due("station beside a train", yard.station(2, 1, 0, 0), -1);
        CHECK.due("track: on the next tile", yard.track(3, 1, 1, true), true);
        yard.order(0, 0);
        yard.tick(1);
        CHECK.due("track: on a tile reserved ahead", yard.track(5, 1, 1, true), false);
        CHECK.due("signal on a tile reserved ahead", yard.signal(5, 1, 0, 1, true), false);
        CHECK.due("station on a tile reserved ahead", yard.station(5, 1, 0, 1), -1);
        CHECK.due("track: on a tile let go", yard.track(2, 1, 3, false), true);
    }

    private static void stationsKeepTheirPiece() {
        RailYard yard = new RailYard(3, 3);
        yard.track(1, 1, 0, true);
        yard.track(1, 1, 1, true);
        CHECK.due("station", yard.station(1, 1, 1, 5), 0);
        CHECK.due("track: take a station's", yard.track(1, 1, 1, false), false);
        CHECK.due("track: take the other", yard.track(1, 1, 0, false), true);
        CHECK.due("track: build beside", yard.track(1, 1, 4, true), true);
        CHECK.due("signal on a station's", yard.signal(1, 1, 1, 0, true), false);
        CHECK.due("signal beside a station", yard.signal(1, 1, 4, 0, true), true);
        CHECK.due("pieces", yard.pieces(1, 1), 2 + 16);
    }

    private static void signalsOfEachPiece() {
        RailYard yard = new RailYard(8, 6);
        for (int piece = 0; piece < 6; piece++) {
            yard.track(piece, 1, piece, true);
            CHECK.due("signals: none", yard.signals(piece, 1, piece), 0);
            int sum = 0;
            for (int edge = 0; edge < 4; edge++) {
                boolean first = EDGES[piece][0] == edge;
                boolean second = EDGES[piece][1] == edge;
                String call = "signal of piece " + piece + " for edge " + edge;
                CHECK.due(call, yard.signal(piece, 1, piece, edge, true), first || second);
                CHECK.due(call + " again", yard.signal(piece, 1, piece, edge, true), false);
                sum += first ? 1 : second ? 2 : 0;
                CHECK.due(call + ": signals", yard.signals(piece, 1, piece), sum);
            }
            CHECK.due("signals: both", sum, 3);
            CHECK.due("take the first", yard.signal(piece, 1, piece, EDGES[piece][0], false), true);
            CHECK.due("signals: second", yard.signals(piece, 1, piece), 2);
            CHECK.due("take it again", yard.signal(piece, 1, piece, EDGES[piece][0], false), false);
            CHECK.due("take second", yard.signal(piece, 1, piece, EDGES[piece][1], false), true);
            CHECK.due("signals: none left", yard.signals(piece, 1, piece), 0);
        }
    }

    private static void signalsRefused() {
        RailYard yard = new RailYard(4, 4);
        yard.track(1, 1, 0, true);
        CHECK.due("signal: no piece", yard.signal(1, 1, 1, 0, true), false);
        CHECK.due("signal: no piece 6", yard.signal(1, 1, 6, 0, true), false);
        CHECK.due("signal: no piece -1", yard.signal(1, 1, -1, 0, true), false);
        CHECK.due("signal: no tile", yard.signal(-1, 1, 0, 1, true), false);
        CHECK.due("signal: no tile", yard.signal(1, 4, 0, 1, true), false);
        CHECK.due("signal: edge 4", yard.signal(1, 1, 0, 4, true), false);
        CHECK.due("signal: edge -1", yard.signal(1, 1, 0, -1, true), false);
        CHECK.due("signal: edge of another", yard.signal(1, 1, 0, 0, true), false);
        CHECK.due("signal: none to take", yard.signal(1, 1, 0, 1, false), false);
        CHECK.due("signals: still none", yard.signals(1, 1, 0), 0);
        CHECK.due("signals: no piece", yard.signals(1, 1, 1), -1);
        CHECK.due("signals: no piece 6", yard.signals(1, 1, 6), -1);
        CHECK.due("signals: no piece -1", yard.signals(1, 1, -1), -1);
        CHECK.due("signals: no tile", yard.signals(4, 1, 0), -1);
    }
}
