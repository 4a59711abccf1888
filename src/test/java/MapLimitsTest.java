import java.util.function.Supplier;

/** The boundary cases of the map and of promises 1, 2, 3, 9 and 10, a sentence at a time. */
public final class MapLimitsTest {
    private static final Check CHECK = new Check("MapLimitsTest");
    private static final Refusal REFUSAL = new Refusal(CHECK);
    private static final int[][] JOINS = {{3, 1}, {0, 2}, {0, 1}, {2, 3}, {0, 3}, {1, 2}};
    private static final int[] NO_PIECES = {-1, 6, 7, -64, 64, 1 << 30,
        Integer.MIN_VALUE, Integer.MAX_VALUE};
    private static final int[] NO_EDGES = {-1, 4, 5, 32, 35, -29,
        Integer.MIN_VALUE, Integer.MAX_VALUE};

    public static void main(String[] args) {
        sizes();
        withoutAnything();
        tilesOfTheMap();
        noSuchTile();
        noSuchPiece();
        mayCross();
        withItsSignals();
        tileIsHeld();
        pieceIsThereAlready();
        pieceIsNotThere();
        stationIsOnIt();
        signalOnNoPiece();
        hasNotThisEdge();
        signalOnHeldTile();
        signalOnStation();
        signalIsThereAlready();
        signalIsNotThere();
        piecesOfATile();
        signalsOfAPiece();
        CHECK.end();
    }

    private static void sizes() {
        CHECK.about("1: below 3 counts as 3; above 8, for the height above 6, as that");
        int[][] widths = {{3, 3}, {2, 3}, {1, 3}, {0, 3}, {-1, 3}, {Integer.MIN_VALUE, 3}, {4, 4},
            {6, 6}, {7, 7}, {8, 8}, {9, 8}, {10, 8}, {64, 8}, {Integer.MAX_VALUE, 8}};
        int[][] heights = {{3, 3}, {2, 3}, {1, 3}, {0, 3}, {-1, 3}, {Integer.MIN_VALUE, 3}, {4, 4},
            {5, 5}, {6, 6}, {7, 6}, {8, 6}, {9, 6}, {Integer.MAX_VALUE, 6}};
        for (int[] width : widths) {
            for (int[] height : heights) {
                RailYard yard = new RailYard(width[0], height[0]);
                String made = "new RailYard(" + width[0] + ", " + height[0] + "): pieces ";
                int lastX = width[1] - 1;
                int lastY = height[1] - 1;
                CHECK.due(made + "in the last corner", yard.pieces(lastX, lastY), 0);
                CHECK.due(made + "east of it", yard.pieces(lastX + 1, lastY), -1);
                CHECK.due(made + "south of it", yard.pieces(lastX, lastY + 1), -1);
            }
        }
    }

    private static void withoutAnything() {
        CHECK.about("1: without track; nothing was produced, the clock is 0");
        int[][] sizes = {{3, 3}, {8, 6}, {2, 2}, {9, 7}, {5, 4}};
        for (int[] size : sizes) {
            RailYard yard = new RailYard(size[0], size[1]);
            CHECK.due("produced", yard.produced(), 0);
            CHECK.due("delivered", yard.delivered(), 0);
            CHECK.due("clock", yard.clock(), 0);
            CHECK.due("blocked", yard.blocked(), 0);
            for (int i = 0; i < 6; i++) {
                CHECK.due("waiting", yard.waiting(i), -1);
                CHECK.due("motion", yard.motion(i), -1);
                CHECK.due("held", yard.held(i, 0), -1);
                CHECK.due("signals", yard.signals(1, 1, i), -1);
            }
            for (int x = 0; x < 8; x++) {
                for (int y = 0; y < 6; y++) {
                    CHECK.due("pieces", yard.pieces(x, y) > 0, false);
                }
            }
        }
    }

    private static void tilesOfTheMap() {
        CHECK.about("Terms: tiles (x, y), x = 0 .. width - 1, y = 0 .. height - 1");
        int[][] sizes = {{3, 3}, {5, 4}, {8, 6}, {3, 6}, {8, 3}};
        for (int[] size : sizes) {
            RailYard yard = new RailYard(size[0], size[1]);
            for (int x = -2; x < 10; x++) {
                for (int y = -2; y < 9; y++) {
                    boolean there = x >= 0 && x < size[0] && y >= 0 && y < size[1];
                    String tile = "(" + x + ", " + y + ") of " + size[0] + " by " + size[1];
                    CHECK.due("pieces " + tile, yard.pieces(x, y), there ? 0 : -1);
                    CHECK.due("track " + tile, yard.track(x, y, 1, true), there);
                    CHECK.due("pieces " + tile, yard.pieces(x, y), there ? 2 : -1);
                }
            }
        }
    }

    /** Tiles just beyond each side, of which some would be another one if rows ran into another. */
    private static void noSuchTile() {
        CHECK.about("2, 3, 4, 5, 9, 10, 11, 12: there is no such tile");
        int[][] of8by6 = {{-1, 2}, {8, 1}, {3, -1}, {3, 6}, {8, 5}, {-1, 0}, {8, 0}, {-8, 1},
            {2, Integer.MIN_VALUE}, {2, Integer.MAX_VALUE}, {Integer.MIN_VALUE, 2},
            {Integer.MAX_VALUE, 2}, {2, 1 << 29}, {2 + 64, 0}, {16, 0}};
        for (int[] tile : of8by6) {
            noTile(() -> Lay.busy(8, 6), tile[0], tile[1]);
        }
        int[][] of5by4 = {{-1, 2}, {5, 1}, {3, -1}, {3, 4}, {5, 3}, {8, 1}, {-4, 2}, {-8, 1}};
        for (int[] tile : of5by4) {
            noTile(() -> Lay.busy(5, 4), tile[0], tile[1]);
        }
    }

    private static void noTile(Supplier<RailYard> scene, int x, int y) {
        for (int piece = 0; piece < 6; piece++) {
            int p = piece;
            int edge = JOINS[p][1];
            String at = "(" + x + ", " + y + ", " + p + ")";
            REFUSAL.of("track, build " + at, scene, it -> bit(it.track(x, y, p, true)), 0);
            REFUSAL.of("track, take " + at, scene, it -> bit(it.track(x, y, p, false)), 0);
            REFUSAL.of("signal, put " + at, scene, it -> bit(it.signal(x, y, p, edge, true)), 0);
            REFUSAL.of("signal, take " + at, scene, it -> bit(it.signal(x, y, p, edge, false)), 0);
            REFUSAL.of("station " + at, scene, it -> it.station(x, y, p, 5), -1);
            REFUSAL.of("train " + at, scene, it -> it.train(x, y, p, edge, 1), -1);
            REFUSAL.of("signals " + at, scene, it -> it.signals(x, y, p), -1);
            REFUSAL.of("holder " + at, scene, it -> it.holder(x, y, p), -1);
            REFUSAL.of("toGo " + at, scene, it -> it.toGo(x, y, p, edge, 0), -1);
        }
        REFUSAL.of("pieces", scene, it -> it.pieces(x, y), -1);
    }

    private static void noSuchPiece() {
        CHECK.about("2: there is no such piece");
        RailYard yard = new RailYard(3, 3);
        CHECK.due("track, build 0, the first", yard.track(1, 1, 0, true), true);
        CHECK.due("track, build 5, the last", yard.track(1, 1, 5, true), true);
        CHECK.due("track, take 0", yard.track(1, 1, 0, false), true);
        CHECK.due("track, take 5", yard.track(1, 1, 5, false), true);
        for (int p : NO_PIECES) {
            for (int x = 2; x < 4; x++) {
                int at = x;
                REFUSAL.of("track, build " + p, MapLimitsTest::scene,
                    it -> bit(it.track(at, 1, p, true)), 0);
                REFUSAL.of("track, take " + p, MapLimitsTest::scene,
                    it -> bit(it.track(at, 1, p, false)), 0);
            }
        }
    }

    /** (3, 1) has track and nobody on it, (2, 1) two pieces, one of them held. */
    private static RailYard scene() {
        RailYard yard = Lay.busy(8, 6);
        yard.track(3, 1, 0, true);
        yard.track(3, 1, 1, true);
        yard.track(3, 1, 2, true);
        yard.signal(3, 1, 0, 1, true);
        yard.signal(3, 1, 2, 0, true);
        yard.signal(3, 1, 2, 1, true);
        return yard;
    }

    private static void mayCross() {
        CHECK.about("2: it may cross others of the tile");
        for (int first = 0; first < 6; first++) {
            for (int second = 0; second < 6; second++) {
                RailYard yard = new RailYard(3, 3);
                yard.track(1, 1, first, true);
                String both = "track, build " + first + " and then " + second;
                CHECK.due(both, yard.track(1, 1, second, true), first != second);
                CHECK.due(both + ": pieces", yard.pieces(1, 1), 1 << first | 1 << second);
            }
        }
    }

    private static void withItsSignals() {
        CHECK.about("2: takes it away with its signals");
        for (int piece = 0; piece < 6; piece++) {
            for (int signals = 0; signals < 4; signals++) {
                RailYard yard = new RailYard(3, 3);
                for (int p = 0; p < 6; p++) {
                    yard.track(1, 1, p, true);
                    light(yard, 1, 1, p, signals);
                }
                CHECK.due("track, take " + piece, yard.track(1, 1, piece, false), true);
                for (int p = 0; p < 6; p++) {
                    CHECK.due("signals of " + p, yard.signals(1, 1, p), p == piece ? -1 : signals);
                }
                CHECK.due("track, build it anew", yard.track(1, 1, piece, true), true);
                CHECK.due("signals of it", yard.signals(1, 1, piece), 0);
            }
        }
    }

    private static void light(RailYard yard, int x, int y, int piece, int signals) {
        for (int i = 0; i < 2; i++) {
            if ((signals >> i & 1) != 0) {
                yard.signal(x, y, piece, JOINS[piece][i], true);
            }
        }
    }

    /** Body from (2, 1) to (3, 1), ahead to (6, 1); bends that no train holds beside each. */
    private static RailYard aheadToSix() {
        RailYard yard = Lay.line(new RailYard(8, 3), 1, 7);
        yard.station(6, 1, 0, 4);
        for (int x = 0; x < 8; x++) {
            yard.track(x, 1, 2, true);
            yard.signal(x, 1, 2, 0, true);
        }
        yard.train(2, 1, 0, 1, 2);
        yard.order(0, 0);
        yard.save();
        yard.tick(1);
        return yard;
    }

    private static void tileIsHeld() {
        CHECK.about("2: refused when the tile is held");
        for (int x = 0; x < 8; x++) {
            int at = x;
            boolean held = x >= 2 && x <= 6;
            changed("track, build beside on " + x, it -> bit(it.track(at, 1, 3, true)), held);
            changed("track, take beside on " + x, it -> bit(it.track(at, 1, 2, false)), held);
            changed("track, take on " + x, it -> bit(it.track(at, 1, 0, false)), held);
        }
        RailYard yard = aheadToSix();
        yard.tick(1);
        CHECK.due("its last is on (4, 1)", yard.held(0, 0), Lay.code(4, 1, 0, 1));
        CHECK.due("track, take what it let go", yard.track(3, 1, 0, false), true);
        CHECK.due("track, take its last", yard.track(4, 1, 0, false), false);
    }

    /** Refused if a tile is held, and else carried out. */
    private static void changed(String name, Refusal.Call call, boolean held) {
        if (held) {
            REFUSAL.of(name, MapLimitsTest::aheadToSix, call, 0);
        } else {
            CHECK.due(name, call.on(aheadToSix()), 1);
        }
    }

    private static void pieceIsThereAlready() {
        CHECK.about("2: refused when the piece is there already");
        for (int piece = 0; piece < 6; piece++) {
            int p = piece;
            Supplier<RailYard> one = () -> withPieces(1 << p);
            REFUSAL.of("track, build " + p + " again", one, it -> bit(it.track(1, 1, p, true)), 0);
            RailYard yard = withPieces(63 - (1 << p));
            CHECK.due("track, build the last", yard.track(1, 1, p, true), true);
            CHECK.due("pieces", yard.pieces(1, 1), 63);
        }
    }

    private static void pieceIsNotThere() {
        CHECK.about("2: refused when the piece is not there");
        for (int piece = 0; piece < 6; piece++) {
            int p = piece;
            Supplier<RailYard> others = () -> withPieces(63 - (1 << p));
            REFUSAL.of("track, take " + p, others, it -> bit(it.track(1, 1, p, false)), 0);
            RailYard yard = withPieces(1 << p);
            CHECK.due("track, take the only one", yard.track(1, 1, p, false), true);
            CHECK.due("pieces", yard.pieces(1, 1), 0);
        }
    }

    /** A tile (1, 1) with some pieces, each with a signal for its first edge. */
    private static RailYard withPieces(int pieces) {
        RailYard yard = new RailYard(3, 3);
        for (int p = 0; p < 6; p++) {
            if ((pieces >> p & 1) != 0) {
                yard.track(1, 1, p, true);
                yard.signal(1, 1, p, JOINS[p][0], true);
            }
        }
        return yard;
    }

    private static RailYard withStation(int piece) {
        RailYard yard = new RailYard(3, 3);
        yard.track(1, 1, 0, true);
        yard.track(1, 1, 1, true);
        yard.track(1, 1, 4, true);
        yard.station(1, 1, piece, 6);
        return yard;
    }

    private static void stationIsOnIt() {
        CHECK.about("2: refused when, taking away, a station is on it");
        for (int piece = 0; piece < 2; piece++) {
            int p = piece;
            REFUSAL.of("track, take a station's " + p, () -> withStation(p),
                it -> bit(it.track(1, 1, p, false)), 0);
            RailYard yard = withStation(p);
            CHECK.due("track, take the one beside it", yard.track(1, 1, 1 - p, false), true);
            CHECK.due("track, take a bend beside it", yard.track(1, 1, 4, false), true);
            CHECK.due("track, build beside it", yard.track(1, 1, 5, true), true);
            CHECK.due("pieces", yard.pieces(1, 1), 1 << p | 32);
        }
    }

    private static void signalOnNoPiece() {
        CHECK.about("3: refused when the piece is not there");
        for (int p : NO_PIECES) {
            for (int edge = 0; edge < 4; edge++) {
                int e = edge;
                REFUSAL.of("signal, put on " + p, MapLimitsTest::scene,
                    it -> bit(it.signal(3, 1, p, e, true)), 0);
                REFUSAL.of("signal, take from " + p, MapLimitsTest::scene,
                    it -> bit(it.signal(3, 1, p, e, false)), 0);
            }
        }
        for (int piece = 0; piece < 6; piece++) {
            int p = piece;
            for (int e : JOINS[p]) {
                Supplier<RailYard> others = () -> withPieces(63 - (1 << p));
                REFUSAL.of("signal, put on " + p, others,
                    it -> bit(it.signal(1, 1, p, e, true)), 0);
                REFUSAL.of("signal, take from " + p, others,
                    it -> bit(it.signal(1, 1, p, e, false)), 0);
            }
        }
    }

    private static void hasNotThisEdge() {
        CHECK.about("3: refused when the piece has not this edge");
        for (int piece = 0; piece < 6; piece++) {
            int p = piece;
            for (int edge = 0; edge < 4; edge++) {
                if (edge == JOINS[p][0] || edge == JOINS[p][1]) {
                    RailYard yard = new RailYard(3, 3);
                    yard.track(1, 1, p, true);
                    CHECK.due("signal, put on its own", yard.signal(1, 1, p, edge, true), true);
                } else {
                    noEdge(p, edge);
                }
            }
            for (int edge : NO_EDGES) {
                noEdge(p, edge);
            }
        }
    }

    private static void noEdge(int p, int edge) {
        String at = " on " + p + " for edge " + edge;
        Supplier<RailYard> scene = () -> withPieces(63);
        REFUSAL.of("signal, put" + at, scene, it -> bit(it.signal(1, 1, p, edge, true)), 0);
        REFUSAL.of("signal, take" + at, scene, it -> bit(it.signal(1, 1, p, edge, false)), 0);
    }

    private static void signalOnHeldTile() {
        CHECK.about("3: refused when the tile is held");
        for (int x = 0; x < 8; x++) {
            int at = x;
            boolean held = x >= 2 && x <= 6;
            changed("signal, put on " + x, it -> bit(it.signal(at, 1, 0, 1, true)), held);
            changed("signal, put beside on " + x, it -> bit(it.signal(at, 1, 2, 1, true)), held);
            changed("signal, take beside on " + x, it -> bit(it.signal(at, 1, 2, 0, false)), held);
        }
    }

    private static void signalOnStation() {
        CHECK.about("3: refused when a station is on the piece");
        for (int piece = 0; piece < 2; piece++) {
            int p = piece;
            for (int e : JOINS[p]) {
                REFUSAL.of("signal, put on a station's " + p, () -> withStation(p),
                    it -> bit(it.signal(1, 1, p, e, true)), 0);
                REFUSAL.of("signal, take from a station's " + p, () -> withStation(p),
                    it -> bit(it.signal(1, 1, p, e, false)), 0);
            }
            RailYard yard = withStation(p);
            CHECK.due("signal, put beside it",
                yard.signal(1, 1, 1 - p, JOINS[1 - p][0], true), true);
            CHECK.due("signal, put on a bend beside it", yard.signal(1, 1, 4, 3, true), true);
        }
    }

    private static void signalIsThereAlready() {
        CHECK.about("3: refused when the signal is there already");
        for (int piece = 0; piece < 6; piece++) {
            int p = piece;
            for (int signals = 0; signals < 4; signals++) {
                for (int i = 0; i < 2; i++) {
                    putSignal(p, signals, i);
                }
            }
        }
    }

    private static void putSignal(int p, int signals, int i) {
        int edge = JOINS[p][i];
        String name = "signal, put on " + p + " for edge " + edge + " beside " + signals;
        Supplier<RailYard> scene = () -> lit(p, signals);
        if ((signals >> i & 1) != 0) {
            REFUSAL.of(name, scene, it -> bit(it.signal(1, 1, p, edge, true)), 0);
        } else {
            RailYard yard = scene.get();
            CHECK.due(name, yard.signal(1, 1, p, edge, true), true);
            CHECK.due(name + ": signals", yard.signals(1, 1, p), signals + (1 << i));
        }
    }

    private static void signalIsNotThere() {
        CHECK.about("3: refused when the signal is not there");
        for (int piece = 0; piece < 6; piece++) {
            int p = piece;
            for (int signals = 0; signals < 4; signals++) {
                for (int i = 0; i < 2; i++) {
                    takeSignal(p, signals, i);
                }
            }
        }
    }

    private static void takeSignal(int p, int signals, int i) {
        int edge = JOINS[p][i];
        String name = "signal, take from " + p + " for edge " + edge + " of " + signals;
        Supplier<RailYard> scene = () -> lit(p, signals);
        if ((signals >> i & 1) == 0) {
            REFUSAL.of(name, scene, it -> bit(it.signal(1, 1, p, edge, false)), 0);
        } else {
            RailYard yard = scene.get();
            CHECK.due(name, yard.signal(1, 1, p, edge, false), true);
            CHECK.due(name + ": signals", yard.signals(1, 1, p), signals - (1 << i));
        }
    }

    /** Piece p with some signals, on a tile whose other pieces have all or none. */
    private static RailYard lit(int p, int signals) {
        RailYard yard = new RailYard(3, 3);
        for (int other = 0; other < 6; other++) {
            yard.track(1, 1, other, true);
            light(yard, 1, 1, other, other == p ? signals : other % 2 * 3);
        }
        return yard;
    }

    private static void piecesOfATile() {
        CHECK.about("9: the sum of 1 << piece");
        for (int pieces = 0; pieces < 64; pieces++) {
            CHECK.due("pieces", withPieces(pieces).pieces(1, 1), pieces);
            CHECK.due("pieces of another tile", withPieces(pieces).pieces(2, 1), 0);
        }
        REFUSAL.nothingChanged("pieces", MapLimitsTest::scene, it -> it.pieces(3, 1));
    }

    private static void signalsOfAPiece() {
        CHECK.about("10: 1 for its first edge, 2 for its second, added; NONE when not there");
        for (int piece = 0; piece < 6; piece++) {
            for (int signals = 0; signals < 4; signals++) {
                CHECK.due("signals", lit(piece, signals).signals(1, 1, piece), signals);
            }
            CHECK.due("signals of none", withPieces(63 - (1 << piece)).signals(1, 1, piece), -1);
        }
        for (int p : NO_PIECES) {
            CHECK.due("signals of " + p, withPieces(63).signals(1, 1, p), -1);
        }
        REFUSAL.nothingChanged("signals", MapLimitsTest::scene, it -> it.signals(3, 1, 2));
    }

    private static long bit(boolean answer) {
        return answer ? 1 : 0;
    }
}
