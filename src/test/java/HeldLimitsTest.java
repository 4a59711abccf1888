/** The boundary cases of what trains hold, promises 11 and 13, a sentence at a time. */
public final class HeldLimitsTest {
    private static final Check CHECK = new Check("HeldLimitsTest");
    private static final Refusal REFUSAL = new Refusal(CHECK);

    public static void main(String[] args) {
        holderOfAPiece();
        holderOfNone();
        pieceByPiece();
        heldOfNone();
        everyTileAndEdge();
        CHECK.end();
    }

    /** Body on (2, 1) and (3, 1), ahead to (6, 1), a bend beside each. */
    private static RailYard aheadToSix() {
        RailYard yard = Lay.line(new RailYard(8, 3), 1, 7);
        yard.station(6, 1, 0, 4);
        for (int x = 0; x < 8; x++) {
            yard.track(x, 1, 2, true);
        }
        yard.train(0, 1, 2, 0, 1);
        yard.train(2, 1, 0, 1, 2);
        yard.order(1, 0);
        yard.save();
        yard.tick(1);
        return yard;
    }

    private static void holderOfAPiece() {
        CHECK.about("11: the train that holds a piece; NONE when none does");
        RailYard yard = aheadToSix();
        int[] due = {-1, -1, 1, 1, 1, 1, 1, -1};
        for (int x = 0; x < 8; x++) {
            CHECK.due("holder on " + x, yard.holder(x, 1, 0), due[x]);
            CHECK.due("holder of the bend on " + x, yard.holder(x, 1, 2), x == 0 ? 0 : -1);
        }
        yard.tick(1);
        CHECK.due("holder of what was let go", yard.holder(3, 1, 0), -1);
        CHECK.due("holder of its last", yard.holder(4, 1, 0), 1);
        CHECK.due("holder of its last ahead", yard.holder(6, 1, 0), 1);
        REFUSAL.nothingChanged("holder", HeldLimitsTest::aheadToSix, it -> it.holder(4, 1, 0));
    }

    private static void holderOfNone() {
        CHECK.about("11: NONE when the piece is not there");
        int[] none = {-1, 1, 3, 4, 5, 6, 7, 64, -64, Integer.MIN_VALUE, Integer.MAX_VALUE};
        for (int p : none) {
            REFUSAL.of("holder of " + p, HeldLimitsTest::aheadToSix, it -> it.holder(4, 1, p), -1);
        }
        REFUSAL.of("holder on no track", HeldLimitsTest::aheadToSix, it -> it.holder(4, 2, 0), -1);
    }

    private static void pieceByPiece() {
        CHECK.about("13: piece k, from 0, from the last of its body to the last one ahead");
        RailYard yard = aheadToSix();
        for (int k = -3; k < 10; k++) {
            CHECK.due("held(1, " + k + ")", yard.held(1, k),
                k >= 0 && k <= 4 ? Lay.code(2 + k, 1, 0, 1) : -1);
            CHECK.due("held(0, " + k + ")", yard.held(0, k), k == 0 ? Lay.code(0, 1, 2, 0) : -1);
        }
    }

    private static void heldOfNone() {
        CHECK.about("13: NONE when there is none");
        int[] none = {-1, 2, 3, 5, 6, 64, Integer.MIN_VALUE, Integer.MAX_VALUE};
        for (int t : none) {
            REFUSAL.of("held(" + t + ", 0)", HeldLimitsTest::aheadToSix, it -> it.held(t, 0), -1);
        }
        int[] beyond = {-1, 5, 6, 95, 96, 97, 1000, Integer.MIN_VALUE, Integer.MAX_VALUE};
        for (int k : beyond) {
            REFUSAL.of("held(1, " + k + ")", HeldLimitsTest::aheadToSix, it -> it.held(1, k), -1);
        }
        REFUSAL.nothingChanged("held(1, 4)", HeldLimitsTest::aheadToSix, it -> it.held(1, 4));
        RailYard six = Lay.line(new RailYard(8, 3), 1, 7);
        for (int t = 0; t < 6; t++) {
            CHECK.due("held before there is one", six.held(t, 0), -1);
            six.train(t, 1, 0, 1, 1);
            CHECK.due("held(" + t + ", 0)", six.held(t, 0), Lay.code(t, 1, 0, 1));
            CHECK.due("held(" + t + ", 1)", six.held(t, 1), -1);
        }
        CHECK.due("held(6, 0)", six.held(6, 0), -1);
    }

    private static void everyTileAndEdge() {
        CHECK.about("13: x plus 8 times y, plus 64 times the piece's number, plus 512 times ...");
        int[][] joins = {{3, 1}, {0, 2}, {0, 1}, {2, 3}, {0, 3}, {1, 2}};
        for (int p = 0; p < 6; p++) {
            for (int edge : joins[p]) {
                for (int x = 0; x < 8; x++) {
                    for (int y = 0; y < 6; y++) {
                        RailYard yard = new RailYard(8, 6);
                        yard.track(x, y, p, true);
                        CHECK.due("train", yard.train(x, y, p, edge, 1), 0);
                        CHECK.due("held", yard.held(0, 0), x + 8 * y + 64 * p + 512 * edge);
                    }
                }
            }
        }
    }
}
