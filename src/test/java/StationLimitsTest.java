/** The boundary cases of stations and their cargo, promises 4, 17 and 18, a sentence at a time. */
public final class StationLimitsTest {
    private static final Check CHECK = new Check("StationLimitsTest");
    private static final Refusal REFUSAL = new Refusal(CHECK);
    private static final int[][] JOINS = {{3, 1}, {0, 2}, {0, 1}, {2, 3}, {0, 3}, {1, 2}};
    private static final int[] NO_RATES = {-1, -50, 51, 52, 100, Integer.MIN_VALUE,
        Integer.MAX_VALUE};

    public static void main(String[] args) {
        rates();
        pieceIsNotThere();
        pieceIsAStraight();
        pieceHasASignal();
        tileIsHeld();
        tileHasAStation();
        sixStations();
        noneBeforeFull();
        lessThanFiveHundred();
        notAboveFiveHundred();
        waitingOfNone();
        producedByAll();
        CHECK.end();
    }

    /** Straight pieces 0 and 1 on (3, 1), a bend too, and a busy ring round it. */
    private static RailYard scene() {
        RailYard yard = Lay.busy(8, 6);
        yard.track(3, 1, 0, true);
        yard.track(3, 1, 1, true);
        yard.track(3, 1, 2, true);
        return yard;
    }

    private static void rates() {
        CHECK.about("4: NONE when rate is not 0 .. 50");
        for (int rate : NO_RATES) {
            REFUSAL.of("station of rate " + rate, StationLimitsTest::scene,
                it -> it.station(3, 1, 0, rate), -1);
        }
        for (int rate = 0; rate <= 50; rate++) {
            RailYard yard = scene();
            CHECK.due("station of rate " + rate, yard.station(3, 1, 0, rate), 2);
            CHECK.due("waiting at first", yard.waiting(2), 0);
            yard.tick(1);
            CHECK.due("waiting after a tick", yard.waiting(2), rate);
            yard.tick(9);
            CHECK.due("waiting after ten", yard.waiting(2), 10 * rate);
        }
    }

    private static void pieceIsNotThere() {
        CHECK.about("4: NONE when the piece is not there");
        for (int piece = 0; piece < 2; piece++) {
            int p = piece;
            REFUSAL.of("station on an empty tile", StationLimitsTest::scene,
                it -> it.station(4, 1, p, 5), -1);
            REFUSAL.of("station, another piece is there", () -> {
                RailYard yard = scene();
                yard.track(3, 1, p, false);
                return yard;
            }, it -> it.station(3, 1, p, 5), -1);
        }
    }

    private static void pieceIsAStraight() {
        CHECK.about("4: NONE when the piece is not 0 or 1");
        int[] none = {2, 3, 4, 5, -1, 6, 64, -64, Integer.MIN_VALUE, Integer.MAX_VALUE};
        for (int p : none) {
            REFUSAL.of("station on piece " + p, StationLimitsTest::allPieces,
                it -> it.station(1, 1, p, 5), -1);
        }
        CHECK.due("station on piece 0", allPieces().station(1, 1, 0, 5), 0);
        CHECK.due("station on piece 1", allPieces().station(1, 1, 1, 5), 0);
    }

    private static RailYard allPieces() {
        RailYard yard = new RailYard(3, 3);
        for (int p = 0; p < 6; p++) {
            yard.track(1, 1, p, true);
        }
        return yard;
    }

    private static void pieceHasASignal() {
        CHECK.about("4: NONE when the piece has a signal");
        for (int piece = 0; piece < 2; piece++) {
            int p = piece;
            for (int signals = 1; signals < 4; signals++) {
                int lit = signals;
                REFUSAL.of("station on signals " + lit, () -> withSignals(p, lit),
                    it -> it.station(1, 1, p, 5), -1);
                CHECK.due("station beside them", withSignals(p, lit).station(1, 1, 1 - p, 5), 0);
            }
            RailYard yard = withSignals(p, 3);
            yard.signal(1, 1, p, JOINS[p][0], false);
            CHECK.due("station on the last signal", yard.station(1, 1, p, 5), -1);
            yard.signal(1, 1, p, JOINS[p][1], false);
            CHECK.due("station when they are gone", yard.station(1, 1, p, 5), 0);
        }
    }

    private static RailYard withSignals(int piece, int signals) {
        RailYard yard = allPieces();
        for (int i = 0; i < 2; i++) {
            if ((signals >> i & 1) != 0) {
                yard.signal(1, 1, piece, JOINS[piece][i], true);
            }
        }
        return yard;
    }

    /** Body on (2, 1) and (3, 1), ahead to (6, 1), straights across at each. */
    private static RailYard aheadToSix() {
        RailYard yard = Lay.line(new RailYard(8, 3), 1, 7);
        yard.track(7, 0, 0, true);
        yard.station(6, 1, 0, 4);
        for (int x = 0; x < 8; x++) {
            yard.track(x, 1, 1, true);
        }
        yard.train(2, 1, 0, 1, 2);
        yard.order(0, 0);
        yard.save();
        yard.tick(1);
        return yard;
    }

    private static void tileIsHeld() {
        CHECK.about("4: NONE when the tile is held");
        for (int x = 0; x < 8; x++) {
            int at = x;
            for (int piece = 0; piece < 2; piece++) {
                int p = piece;
                if (x >= 2 && x <= 6) {
                    REFUSAL.of("station on " + x, StationLimitsTest::aheadToSix,
                        it -> it.station(at, 1, p, 5), -1);
                } else {
                    CHECK.due("station on " + x, aheadToSix().station(at, 1, p, 5), 1);
                }
            }
        }
        RailYard yard = aheadToSix();
        yard.tick(1);
        CHECK.due("station where it was let go", yard.station(3, 1, 0, 5), 1);
        CHECK.due("station on its last", yard.station(4, 1, 0, 5), -1);
    }

    private static void tileHasAStation() {
        CHECK.about("4: NONE when the tile has a station");
        for (int piece = 0; piece < 2; piece++) {
            int p = piece;
            for (int again = 0; again < 2; again++) {
                int q = again;
                REFUSAL.of("station on " + q + " beside one on " + p, () -> {
                    RailYard yard = allPieces();
                    yard.station(1, 1, p, 5);
                    return yard;
                }, it -> it.station(1, 1, q, 9), -1);
            }
        }
        RailYard yard = Lay.line(new RailYard(3, 3), 1, 2);
        CHECK.due("station", yard.station(0, 1, 0, 5), 0);
        CHECK.due("station on the next tile", yard.station(1, 1, 0, 5), 1);
    }

    /** Six stations on the line, (6, 1) and (7, 1) are left, a train stands on (7, 2). */
    private static RailYard full() {
        RailYard yard = Lay.line(new RailYard(8, 3), 1, 7);
        for (int s = 0; s < 6; s++) {
            yard.station(s, 1, 0, s + 1);
        }
        yard.track(7, 2, 0, true);
        yard.train(7, 2, 0, 1, 1);
        yard.track(6, 2, 0, true);
        yard.signal(6, 2, 0, 1, true);
        yard.track(6, 1, 2, true);
        return yard;
    }

    private static void sixStations() {
        CHECK.about("4: answers its number; FULL when there are six");
        RailYard yard = Lay.line(new RailYard(8, 3), 1, 7);
        for (int s = 0; s < 6; s++) {
            CHECK.due("station " + s, yard.station(s, 1, 0, 5), s);
            CHECK.due("waiting(" + s + ")", yard.waiting(s), 0);
            CHECK.due("waiting of the next", yard.waiting(s + 1), -1);
        }
        CHECK.due("station, a seventh", yard.station(6, 1, 0, 5), -2);
        REFUSAL.of("station, a seventh", StationLimitsTest::full,
            it -> it.station(6, 1, 0, 5), -2);
        REFUSAL.of("station, a seventh of rate 0", StationLimitsTest::full,
            it -> it.station(7, 1, 0, 0), -2);
        REFUSAL.of("station, a seventh of rate 50", StationLimitsTest::full,
            it -> it.station(7, 1, 0, 50), -2);
    }

    private static void noneBeforeFull() {
        CHECK.about("4: NONE when ...; then FULL");
        REFUSAL.of("rate -1", StationLimitsTest::full, it -> it.station(6, 1, 0, -1), -1);
        REFUSAL.of("rate 51", StationLimitsTest::full, it -> it.station(6, 1, 0, 51), -1);
        REFUSAL.of("no tile", StationLimitsTest::full, it -> it.station(8, 1, 0, 5), -1);
        REFUSAL.of("no piece", StationLimitsTest::full, it -> it.station(6, 1, 1, 5), -1);
        REFUSAL.of("a bend", StationLimitsTest::full, it -> it.station(6, 1, 2, 5), -1);
        REFUSAL.of("a signal", StationLimitsTest::full, it -> it.station(6, 2, 0, 5), -1);
        REFUSAL.of("held", StationLimitsTest::full, it -> it.station(7, 2, 0, 5), -1);
        REFUSAL.of("has a station", StationLimitsTest::full, it -> it.station(5, 1, 0, 5), -1);
    }

    private static RailYard oneStation(int rate) {
        RailYard yard = Lay.line(new RailYard(8, 3), 1, 7);
        yard.station(4, 1, 0, rate);
        return yard;
    }

    private static void lessThanFiveHundred() {
        CHECK.about("Terms: each station that has less than 500 waiting gets ... its rate");
        RailYard yard = oneStation(1);
        Lay.ticks(yard, 498);
        int[] waiting = {499, 500, 500, 500};
        for (int due : waiting) {
            yard.tick(1);
            CHECK.due("waiting", yard.waiting(0), due);
            CHECK.due("produced", yard.produced(), due);
        }
        RailYard none = oneStation(0);
        none.tick(20);
        CHECK.due("waiting at rate 0", none.waiting(0), 0);
        CHECK.due("produced at rate 0", none.produced(), 0);
    }

    private static void notAboveFiveHundred() {
        CHECK.about("Terms, 18: but not above 500; what was above 500 is none");
        for (int rate = 1; rate <= 50; rate++) {
            RailYard yard = oneStation(rate);
            int most = 500 / rate;
            Lay.ticks(yard, most);
            CHECK.due("waiting before", yard.waiting(0), most * rate);
            CHECK.due("produced before", yard.produced(), most * rate);
            yard.tick(1);
            CHECK.due("waiting", yard.waiting(0), 500);
            CHECK.due("produced", yard.produced(), 500);
            yard.tick(20);
            CHECK.due("waiting, later", yard.waiting(0), 500);
            CHECK.due("produced, later", yard.produced(), 500);
        }
        RailYard yard = oneStation(50);
        yard.train(4, 1, 0, 1, 1);
        yard.order(0, 0);
        yard.tick(1);
        yard.tick(1);
        yard.tick(1);
        CHECK.due("130 wait, 20 are loaded", yard.waiting(0), 130);
        yard.tick(8);
        CHECK.due("500, of which 30 were above", yard.waiting(0), 500);
        CHECK.due("produced", yard.produced(), 520);
    }

    private static void waitingOfNone() {
        CHECK.about("17: NONE when there is no such station");
        int[] none = {-1, 2, 3, 5, 6, 64, Integer.MIN_VALUE, Integer.MAX_VALUE};
        for (int s : none) {
            REFUSAL.of("waiting(" + s + ")", StationLimitsTest::scene, it -> it.waiting(s), -1);
        }
        CHECK.due("waiting(0)", scene().waiting(0), 21);
        CHECK.due("waiting(1)", scene().waiting(1), 9);
        REFUSAL.nothingChanged("waiting(0)", StationLimitsTest::scene, it -> it.waiting(0));
        CHECK.due("waiting(5) of six", full().waiting(5), 0);
        CHECK.due("waiting(6) of six", full().waiting(6), -1);
    }

    private static void producedByAll() {
        CHECK.about("18: what all stations have got together");
        RailYard yard = full();
        CHECK.due("produced at first", yard.produced(), 0);
        yard.tick(1);
        CHECK.due("produced after one", yard.produced(), 1 + 2 + 3 + 4 + 5 + 6);
        yard.tick(19);
        CHECK.due("produced after twenty", yard.produced(), 20 * 21);
        Lay.ticks(yard, 480);
        CHECK.due("produced when all are full", yard.produced(), 6 * 500);
        REFUSAL.nothingChanged("produced", StationLimitsTest::scene, it -> it.produced());
    }
}
