/** Promises 4 station, 17 waiting and 18 produced. */
public final class StationTest {
    private static final Check CHECK = new Check("StationTest");

    public static void main(String[] args) {
        whereAStationCanBe();
        sixAtTheMost();
        cargoComes();
        neverAboveFiveHundred();
        CHECK.end();
    }

    private static void whereAStationCanBe() {
        RailYard yard = new RailYard(8, 6);
        for (int piece = 0; piece < 6; piece++) {
            yard.track(piece, 0, piece, true);
            CHECK.due("station on piece " + piece, yard.station(piece, 0, piece, 1),
                piece < 2 ? piece : -1);
        }
        yard.track(0, 1, 0, true);
        CHECK.due("station: rate -1", yard.station(0, 1, 0, -1), -1);
        CHECK.due("station: rate 51", yard.station(0, 1, 0, 51), -1);
        CHECK.due("station: no piece", yard.station(0, 1, 1, 5), -1);
        CHECK.due("station: piece -1", yard.station(0, 1, -1, 5), -1);
        CHECK.due("station: piece 6", yard.station(0, 1, 6, 5), -1);
        CHECK.due("station: no tile", yard.station(8, 1, 0, 5), -1);
        CHECK.due("station: no tile", yard.station(0, -1, 0, 5), -1);
        yard.signal(0, 1, 0, 3, true);
        CHECK.due("station: has a signal", yard.station(0, 1, 0, 5), -1);
        yard.signal(0, 1, 0, 3, false);
        CHECK.due("station: rate 50", yard.station(0, 1, 0, 50), 2);
        yard.track(0, 1, 1, true);
        CHECK.due("station: tile has one", yard.station(0, 1, 0, 5), -1);
        CHECK.due("station: tile has one on another", yard.station(0, 1, 1, 5), -1);
        yard.track(3, 3, 2, true);
        yard.track(3, 3, 0, true);
        yard.train(3, 3, 2, 0, 1);
        CHECK.due("station: tile is held", yard.station(3, 3, 0, 5), -1);
        yard.track(4, 3, 0, true);
        yard.track(4, 3, 1, true);
        yard.signal(4, 3, 1, 0, true);
        CHECK.due("station: a signal beside it", yard.station(4, 3, 0, 0), 3);
    }

    private static void sixAtTheMost() {
        RailYard yard = Lay.line(new RailYard(8, 3), 0, 7);
        for (int s = 0; s < 6; s++) {
            CHECK.due("station", yard.station(s, 0, 0, s), s);
            CHECK.due("waiting, new", yard.waiting(s), 0);
        }
        CHECK.due("station: a seventh", yard.station(6, 0, 0, 5), -2);
        CHECK.due("station: wrong before full", yard.station(6, 0, 0, 51), -1);
        CHECK.due("station: wrong before full", yard.station(5, 0, 0, 5), -1);
        CHECK.due("station: wrong before full", yard.station(6, 1, 0, 5), -1);
        CHECK.due("waiting(6)", yard.waiting(6), -1);
        CHECK.due("waiting(-1)", yard.waiting(-1), -1);
        yard.tick(3);
        for (int s = 0; s < 6; s++) {
            CHECK.due("waiting(" + s + ")", yard.waiting(s), 3 * s);
        }
        CHECK.due("produced()", yard.produced(), 45);
    }

    private static void cargoComes() {
        RailYard yard = Lay.line(new RailYard(3, 3), 1, 2);
        yard.tick(4);
        CHECK.due("station", yard.station(1, 1, 0, 7), 0);
        CHECK.due("waiting(1)", yard.waiting(1), -1);
        yard.tick(0);
        CHECK.due("after no tick", yard.waiting(0), 0);
        yard.tick(1);
        CHECK.due("after one", yard.waiting(0), 7);
        yard.tick(2);
        CHECK.due("after three", yard.waiting(0), 21);
        CHECK.due("produced()", yard.produced(), 21);
    }

    private static void neverAboveFiveHundred() {
        RailYard yard = Lay.line(new RailYard(3, 3), 1, 2);
        yard.station(1, 1, 0, 30);
        yard.tick(16);
        CHECK.due("after 16", yard.waiting(0), 480);
        yard.tick(1);
        CHECK.due("after 17", yard.waiting(0), 500);
        CHECK.due("produced: what was above is none", yard.produced(), 500);
        yard.tick(20);
        CHECK.due("full", yard.waiting(0), 500);
        CHECK.due("produced: nothing more", yard.produced(), 500);
        yard.train(1, 1, 0, 1, 2);
        yard.order(0, 0);
        yard.tick(3);
        CHECK.due("a train took 40", yard.waiting(0), 460);
        CHECK.due("produced: as before", yard.produced(), 500);
        yard.tick(2);
        CHECK.due("full again", yard.waiting(0), 500);
        CHECK.due("produced: 40 more", yard.produced(), 540);
    }
}
