import java.util.function.Supplier;

/** The boundary cases of promise 5, train, a sentence at a time. */
public final class TrainLimitsTest {
    private static final Check CHECK = new Check("TrainLimitsTest");
    private static final Refusal REFUSAL = new Refusal(CHECK);
    private static final int[][] JOINS = {{3, 1}, {0, 2}, {0, 1}, {2, 3}, {0, 3}, {1, 2}};
    private static final int[] DX = {0, 1, 0, -1};
    private static final int[] DY = {-1, 0, 1, 0};
    private static final int[] EXTREMES = {Integer.MIN_VALUE, Integer.MAX_VALUE, 1 << 30, -64, 64};

    public static void main(String[] args) {
        aNewTrain();
        noSuchPiece();
        hasNotThisEdge();
        lengths();
        leastNumberBehind();
        pieceIsWanting();
        noneBeyondTheMap();
        crossesAnotherOfThem();
        crossesAHeldBody();
        crossesAHeldAhead();
        differentTilesDoNotCross();
        leastNumberThoughItCrosses();
        signalsAreNotLookedAt();
        sixTrains();
        noneBeforeFull();
        CHECK.end();
    }

    private static RailYard line() {
        return Lay.line(new RailYard(8, 3), 1, 7);
    }

    private static int straight(int edge) {
        return edge % 2 == 0 ? 1 : 0;
    }

    private static void aNewTrain() {
        CHECK.about("5: a new train, standing, without load and orders");
        RailYard yard = line();
        yard.station(3, 1, 0, 9);
        yard.tick(5);
        CHECK.due("train, on a station", yard.train(3, 1, 0, 1, 2), 0);
        yard.tick(5);
        CHECK.due("motion", yard.motion(0), 0);
        CHECK.due("load", yard.load(0), 0);
        CHECK.due("target", yard.target(0), -1);
        CHECK.due("waiting", yard.waiting(0), 90);
        CHECK.due("held(0, 1)", yard.held(0, 1), Lay.code(3, 1, 0, 1));
        CHECK.due("held(0, 2)", yard.held(0, 2), -1);
    }

    private static void noSuchPiece() {
        CHECK.about("5: NONE when there is no such piece");
        Supplier<RailYard> scene = TrainLimitsTest::busyWithMore;
        for (int edge = 0; edge < 4; edge++) {
            int e = edge;
            for (int p : EXTREMES) {
                REFUSAL.of("train on piece " + p, scene, it -> it.train(3, 1, p, e, 1), -1);
            }
            REFUSAL.of("train on piece -1", scene, it -> it.train(3, 1, -1, e, 1), -1);
            REFUSAL.of("train on piece 6", scene, it -> it.train(3, 1, 6, e, 1), -1);
            REFUSAL.of("train on no track", scene, it -> it.train(4, 2, straight(e), e, 1), -1);
            REFUSAL.of("train beside track", scene, it -> it.train(3, 1, 1, 0, 1), -1);
        }
        CHECK.due("train on the first piece", busyWithMore().train(3, 1, 0, 1, 1), 2);
        CHECK.due("train on the last piece", busyWithMore().train(3, 1, 5, 1, 1), 2);
    }

    /** Pieces 0 and 5 on (3, 1), where nobody is. */
    private static RailYard busyWithMore() {
        RailYard yard = Lay.busy(8, 6);
        yard.track(3, 1, 0, true);
        yard.track(3, 1, 5, true);
        return yard;
    }

    private static void hasNotThisEdge() {
        CHECK.about("5: NONE when the piece has not this edge");
        for (int piece = 0; piece < 6; piece++) {
            int p = piece;
            Supplier<RailYard> scene = () -> {
                RailYard yard = new RailYard(3, 3);
                for (int other = 0; other < 6; other++) {
                    yard.track(1, 1, other, true);
                }
                return yard;
            };
            for (int edge = -2; edge < 7; edge++) {
                int e = edge;
                if (e == JOINS[p][0] || e == JOINS[p][1]) {
                    RailYard yard = scene.get();
                    CHECK.due("train on " + p + " to " + e, yard.train(1, 1, p, e, 1), 0);
                    CHECK.due("held(0, 0)", yard.held(0, 0), Lay.code(1, 1, p, e));
                } else {
                    REFUSAL.of("train on " + p + " to " + e, scene,
                        it -> it.train(1, 1, p, e, 1), -1);
                }
            }
            for (int e : EXTREMES) {
                REFUSAL.of("train on " + p + " to " + e, scene, it -> it.train(1, 1, p, e, 1), -1);
            }
        }
    }

    private static void lengths() {
        CHECK.about("5: NONE when length is not 1 .. 5");
        int[] none = {0, -1, -5, 6, 7, 8, Integer.MIN_VALUE, Integer.MAX_VALUE};
        for (int length : none) {
            REFUSAL.of("train of length " + length, TrainLimitsTest::line,
                it -> it.train(7, 1, 0, 1, length), -1);
        }
        for (int length = 1; length <= 5; length++) {
            RailYard yard = line();
            CHECK.due("train of length " + length, yard.train(7, 1, 0, 1, length), 0);
            for (int x = 0; x < 8; x++) {
                CHECK.due("holder on " + x, yard.holder(x, 1, 0), x > 7 - length ? 0 : -1);
            }
            CHECK.due("its last", yard.held(0, 0), Lay.code(8 - length, 1, 0, 1));
            CHECK.due("its head", yard.held(0, length - 1), Lay.code(7, 1, 0, 1));
            CHECK.due("no more", yard.held(0, length), -1);
        }
    }

    /** Every choice of pieces on the tile behind a head that runs towards each edge. */
    private static void leastNumberBehind() {
        CHECK.about("5: the piece with the least number there that has the opposite edge");
        for (int edge = 0; edge < 4; edge++) {
            for (int pieces = 0; pieces < 64; pieces++) {
                int due = -1;
                for (int p = 5; p >= 0; p--) {
                    boolean meets = JOINS[p][0] == edge || JOINS[p][1] == edge;
                    due = (pieces >> p & 1) != 0 && meets ? p : due;
                }
                twoLong(edge, pieces, due);
            }
        }
    }

    private static void twoLong(int edge, int pieces, int due) {
        RailYard yard = new RailYard(3, 3);
        yard.track(1, 1, straight(edge), true);
        int x = 1 - DX[edge];
        int y = 1 - DY[edge];
        for (int p = 0; p < 6; p++) {
            if ((pieces >> p & 1) != 0) {
                yard.track(x, y, p, true);
            }
        }
        String name = "train towards " + edge + " before pieces " + pieces;
        CHECK.due(name, yard.train(1, 1, straight(edge), edge, 2), due < 0 ? -1 : 0);
        CHECK.due(name + ": its last", yard.held(0, 0), due < 0 ? -1 : Lay.code(x, y, due, edge));
        CHECK.due(name + ": its head", yard.held(0, 1),
            due < 0 ? -1 : Lay.code(1, 1, straight(edge), edge));
    }

    private static void pieceIsWanting() {
        CHECK.about("5: NONE when a piece is wanting");
        Supplier<RailYard> scene = () -> {
            RailYard yard = line();
            yard.track(2, 1, 0, false);
            yard.track(2, 1, 1, true);
            yard.track(2, 1, 3, true);
            yard.track(2, 1, 4, true);
            return yard;
        };
        for (int length = 1; length <= 5; length++) {
            int many = length;
            for (int x = 3; x <= 7; x++) {
                int head = x;
                if (x - length + 1 < 3) {
                    REFUSAL.of("train on " + x + " of length " + length, scene,
                        it -> it.train(head, 1, 0, 1, many), -1);
                } else {
                    CHECK.due("train on " + x + " of length " + length,
                        scene.get().train(x, 1, 0, 1, length), 0);
                }
            }
        }
    }

    /** Track in every row and column, so that a row that ran into another would be found. */
    private static void noneBeyondTheMap() {
        CHECK.about("Terms, 5: none beyond the map, so a piece is wanting there");
        int[][] sizes = {{8, 6}, {5, 4}, {3, 3}};
        for (int[] size : sizes) {
            for (int edge = 0; edge < 4; edge++) {
                for (int length = 1; length <= 4; length++) {
                    atTheBorder(size[0], size[1], edge, length);
                }
            }
        }
    }

    private static void atTheBorder(int width, int height, int edge, int length) {
        Supplier<RailYard> scene = () -> {
            RailYard yard = new RailYard(width, height);
            for (int x = 0; x < width; x++) {
                for (int y = 0; y < height; y++) {
                    yard.track(x, y, straight(edge), true);
                }
            }
            return yard;
        };
        int x = edge == 1 ? length - 1 : edge == 3 ? width - length : 1;
        int y = edge == 2 ? length - 1 : edge == 0 ? height - length : 1;
        String name = "train towards " + edge + " of length " + length;
        if (x >= 0 && x < width && y >= 0 && y < height) {
            CHECK.due(name, scene.get().train(x, y, straight(edge), edge, length), 0);
            REFUSAL.of(name + " and one more", scene,
                it -> it.train(x, y, straight(edge), edge, length + 1), -1);
        } else {
            REFUSAL.of(name, scene,
                it -> it.train(x - DX[edge], y - DY[edge], straight(edge), edge, length), -1);
        }
    }

    private static void crossesAnotherOfThem() {
        CHECK.about("5: NONE when one crosses another of them");
        REFUSAL.of("train, its last would cross its head", Lay::knot,
            it -> it.train(2, 2, 1, 2, 5), -1);
        CHECK.due("train, one less", Lay.knot().train(2, 2, 1, 2, 4), 0);
        Supplier<RailYard> ring = () -> Lay.ring(new RailYard(3, 3), 1, 1);
        REFUSAL.of("train, its last would be its head", ring, it -> it.train(0, 0, 5, 1, 5), -1);
        CHECK.due("train, one less", ring.get().train(0, 0, 5, 1, 4), 0);
        RailYard two = Lay.curl();
        CHECK.due("train over 2 and 3 of a tile", two.train(1, 1, 3, 3, 5), 0);
        CHECK.due("holder of 2", two.holder(1, 1, 2), 0);
        CHECK.due("holder of 3", two.holder(1, 1, 3), 0);
        CHECK.due("its last", two.held(0, 0), Lay.code(1, 1, 2, 1));
        CHECK.due("its head", two.held(0, 4), Lay.code(1, 1, 3, 3));
        RailYard four = Lay.otherCurl();
        CHECK.due("train over 4 and 5 of a tile", four.train(2, 1, 4, 0, 5), 0);
        CHECK.due("its last", four.held(0, 0), Lay.code(2, 1, 5, 2));
        CHECK.due("its head", four.held(0, 4), Lay.code(2, 1, 4, 0));
    }

    /** Of every two pieces of a tile, a train on the one and then a train on the other. */
    private static void crossesAHeldBody() {
        CHECK.about("Terms, 5: NONE when one crosses a piece that a train holds; 2 and 3, 4 and 5");
        for (int held = 0; held < 6; held++) {
            for (int piece = 0; piece < 6; piece++) {
                int h = held;
                int p = piece;
                Supplier<RailYard> scene = () -> {
                    RailYard yard = new RailYard(3, 3);
                    yard.track(1, 1, h, true);
                    yard.track(1, 1, p, true);
                    yard.train(1, 1, h, JOINS[h][0], 1);
                    return yard;
                };
                boolean apart = h + p == 5 && h / 2 == 1 || h + p == 9 && h != p;
                if (apart) {
                    CHECK.due("train on " + p + " beside " + h,
                        scene.get().train(1, 1, p, JOINS[p][1], 1), 1);
                } else {
                    REFUSAL.of("train on " + p + " across " + h, scene,
                        it -> it.train(1, 1, p, JOINS[p][1], 1), -1);
                }
            }
        }
        Supplier<RailYard> behind = () -> {
            RailYard yard = line();
            yard.train(2, 1, 0, 1, 2);
            return yard;
        };
        REFUSAL.of("train whose last is held", behind, it -> it.train(5, 1, 0, 1, 4), -1);
        REFUSAL.of("train whose head is held", behind, it -> it.train(1, 1, 0, 3, 1), -1);
        CHECK.due("train up to it", behind.get().train(5, 1, 0, 1, 3), 1);
        CHECK.due("train after it", behind.get().train(0, 1, 0, 1, 1), 1);
    }

    /** Body on (0, 1) before the first tick; after it (1, 1) and ahead round by the south. */
    private static RailYard aheadBySouth() {
        RailYard yard = Lay.twoWays();
        yard.track(1, 1, 2, true);
        yard.track(2, 2, 1, true);
        yard.station(4, 1, 0, 3);
        yard.train(0, 1, 0, 1, 1);
        yard.order(0, 0);
        yard.save();
        yard.tick(1);
        return yard;
    }

    private static void crossesAHeldAhead() {
        CHECK.about("5: NONE when one crosses a piece that a train holds: one ahead too");
        RailYard yard = aheadBySouth();
        CHECK.due("its head", yard.held(0, 0), Lay.code(1, 1, 3, 2));
        CHECK.due("its last ahead", yard.held(0, 5), Lay.code(4, 1, 0, 1));
        Supplier<RailYard> scene = TrainLimitsTest::aheadBySouth;
        REFUSAL.of("train on its last ahead", scene, it -> it.train(4, 1, 0, 3, 1), -1);
        REFUSAL.of("train on its first ahead", scene, it -> it.train(1, 2, 2, 0, 1), -1);
        REFUSAL.of("train across one ahead", scene, it -> it.train(2, 2, 1, 0, 1), -1);
        REFUSAL.of("train across its head", scene, it -> it.train(1, 1, 4, 0, 1), -1);
        REFUSAL.of("train across one ahead", scene, it -> it.train(3, 1, 2, 0, 1), -1);
        CHECK.due("train beside its head", aheadBySouth().train(1, 1, 2, 0, 1), 1);
        CHECK.due("train where it was", aheadBySouth().train(0, 1, 0, 1, 1), 1);
        CHECK.due("train on the north way", aheadBySouth().train(2, 0, 0, 1, 2), 1);
    }

    private static void differentTilesDoNotCross() {
        CHECK.about("Terms: pieces of different tiles do not cross");
        for (int edge = 0; edge < 4; edge++) {
            for (int p = 0; p < 6; p++) {
                RailYard yard = new RailYard(3, 3);
                yard.track(1, 1, straight(edge), true);
                yard.track(1 + DX[edge], 1 + DY[edge], p, true);
                yard.train(1, 1, straight(edge), edge, 1);
                CHECK.due("train on the next tile",
                    yard.train(1 + DX[edge], 1 + DY[edge], p, JOINS[p][0], 1), 1);
            }
        }
    }

    private static void leastNumberThoughItCrosses() {
        CHECK.about("5: the piece with the least number there, even if it crosses a held one");
        Supplier<RailYard> scene = () -> {
            RailYard yard = new RailYard(5, 3);
            yard.track(3, 1, 0, true);
            yard.track(2, 1, 2, true);
            yard.track(2, 1, 4, true);
            yard.track(2, 1, 5, true);
            yard.train(2, 1, 4, 0, 1);
            return yard;
        };
        REFUSAL.of("train, 2 crosses 4", scene, it -> it.train(3, 1, 0, 1, 2), -1);
        RailYard yard = scene.get();
        CHECK.due("train of one", yard.train(3, 1, 0, 1, 1), 1);
        RailYard without = new RailYard(5, 3);
        without.track(3, 1, 0, true);
        without.track(2, 1, 4, true);
        without.track(2, 1, 5, true);
        without.train(2, 1, 4, 0, 1);
        CHECK.due("train, 5 does not", without.train(3, 1, 0, 1, 2), 1);
        CHECK.due("its last", without.held(1, 0), Lay.code(2, 1, 5, 1));
    }

    private static void signalsAreNotLookedAt() {
        CHECK.about("5: (Signals are not looked at.)");
        for (int x = 2; x <= 4; x++) {
            for (int signals = 1; signals < 4; signals++) {
                for (int edge = 1; edge <= 3; edge += 2) {
                    RailYard yard = line();
                    yard.track(3, 1, 2, true);
                    if ((signals & 1) != 0) {
                        yard.signal(x, 1, 0, 3, true);
                    }
                    if ((signals & 2) != 0) {
                        yard.signal(x, 1, 0, 1, true);
                    }
                    CHECK.due("train", yard.train(edge == 1 ? 4 : 2, 1, 0, edge, 3), 0);
                    CHECK.due("its middle", yard.held(0, 1), Lay.code(3, 1, 0, edge));
                }
            }
        }
    }

    /** Six trains of length 1 on the line, (6, 1) and (7, 1) are left. */
    private static RailYard full() {
        RailYard yard = line();
        yard.station(7, 1, 0, 1);
        yard.track(6, 1, 1, true);
        for (int t = 0; t < 6; t++) {
            yard.train(t, 1, 0, 3, 1);
        }
        yard.order(5, 0);
        return yard;
    }

    private static void sixTrains() {
        CHECK.about("5: answers its number; FULL when there are six");
        RailYard yard = line();
        for (int t = 0; t < 6; t++) {
            CHECK.due("motion of the next", yard.motion(t), -1);
            CHECK.due("train " + t, yard.train(7 - t, 1, 0, 1, 1), t);
            CHECK.due("holder", yard.holder(7 - t, 1, 0), t);
            CHECK.due("motion of it", yard.motion(t), 0);
        }
        CHECK.due("train, a seventh", yard.train(1, 1, 0, 1, 1), -2);
        REFUSAL.of("train, a seventh", TrainLimitsTest::full, it -> it.train(6, 1, 0, 1, 1), -2);
        REFUSAL.of("train, a longer one", TrainLimitsTest::full, it -> it.train(6, 1, 0, 3, 2), -2);
    }

    private static void noneBeforeFull() {
        CHECK.about("5: NONE when ...; then FULL");
        Supplier<RailYard> scene = TrainLimitsTest::full;
        REFUSAL.of("no tile", scene, it -> it.train(8, 1, 0, 1, 1), -1);
        REFUSAL.of("no track", scene, it -> it.train(6, 0, 0, 1, 1), -1);
        REFUSAL.of("piece 6", scene, it -> it.train(6, 1, 6, 1, 1), -1);
        REFUSAL.of("not its edge", scene, it -> it.train(6, 1, 0, 0, 1), -1);
        REFUSAL.of("length 0", scene, it -> it.train(6, 1, 0, 1, 0), -1);
        REFUSAL.of("length 6", scene, it -> it.train(6, 1, 0, 3, 6), -1);
        REFUSAL.of("a piece is wanting", scene, it -> it.train(6, 1, 0, 3, 3), -1);
        REFUSAL.of("held by another", scene, it -> it.train(6, 1, 0, 1, 2), -1);
        REFUSAL.of("a piece is wanting", scene, it -> it.train(6, 1, 1, 0, 2), -1);
    }
}
