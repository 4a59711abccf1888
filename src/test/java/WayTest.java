/** Promise 12 toGo, and the way that a request takes. */
public final class WayTest {
    private static final Check CHECK = new Check("WayTest");

    public static void main(String[] args) {
        alongALine();
        costs();
        oneWay();
        theLeastOfTwo();
        theLeastNumberOfTwo();
        theDearerOfTwo();
        wayRound();
        theMapChanges();
        refused();
        CHECK.end();
    }

    private static void alongALine() {
        RailYard yard = Lay.line(new RailYard(8, 3), 1, 7);
        yard.station(5, 1, 0, 0);
        CHECK.due("on the station's piece", yard.toGo(5, 1, 0, 1, 0), 0);
        CHECK.due("on it, the other way", yard.toGo(5, 1, 0, 3, 0), 0);
        CHECK.due("one before it", yard.toGo(4, 1, 0, 1, 0), 10);
        CHECK.due("five before it", yard.toGo(0, 1, 0, 1, 0), 50);
        CHECK.due("from the other side", yard.toGo(7, 1, 0, 3, 0), 20);
        CHECK.due("away from it", yard.toGo(4, 1, 0, 3, 0), -1);
        CHECK.due("off the map", yard.toGo(7, 1, 0, 1, 0), -1);
    }

    private static void costs() {
        RailYard yard = Lay.ring(new RailYard(8, 6), 7, 5);
        yard.station(3, 5, 0, 0);
        CHECK.due("clockwise", yard.toGo(1, 0, 0, 1, 0), 5 * 10 + 7 + 4 * 10 + 7 + 4 * 10);
        CHECK.due("against it", yard.toGo(1, 0, 0, 3, 0), 7 + 4 * 10 + 7 + 3 * 10);
        yard.signal(4, 0, 0, 1, true);
        CHECK.due("a signal costs 5 more", yard.toGo(1, 0, 0, 1, 0), 149);
        yard.signal(4, 0, 0, 3, true);
        CHECK.due("towards the other edge it costs nothing", yard.toGo(1, 0, 0, 1, 0), 149);
        CHECK.due("it does for the other way", yard.toGo(5, 0, 0, 3, 0), 15 + 20 + 10 + 84);
        yard.signal(7, 0, 3, 2, true);
        CHECK.due("on a bend too", yard.toGo(1, 0, 0, 1, 0), 154);
        CHECK.due("not from itself on", yard.toGo(7, 0, 3, 2, 0), 40 + 7 + 40);
    }

    private static void oneWay() {
        RailYard yard = Lay.lineWithEnds();
        yard.signal(3, 1, 0, 3, true);
        CHECK.due("against a signal", yard.toGo(2, 1, 0, 1, 1), -1);
        CHECK.due("from it on, though it can't be", yard.toGo(3, 1, 0, 1, 1), 40);
        CHECK.due("with it", yard.toGo(4, 1, 0, 3, 0), 45);
        yard.signal(3, 1, 0, 1, true);
        CHECK.due("both ways", yard.toGo(2, 1, 0, 1, 1), 55);
        CHECK.due("both ways", yard.toGo(4, 1, 0, 3, 0), 45);
        yard.signal(3, 1, 0, 3, false);
        CHECK.due("the other way alone", yard.toGo(2, 1, 0, 1, 1), 55);
        CHECK.due("the other way alone", yard.toGo(4, 1, 0, 3, 0), -1);
    }

    private static void theLeastOfTwo() {
        RailYard yard = Lay.twoWays();
        yard.station(4, 1, 0, 0);
        CHECK.due("two alike", yard.toGo(0, 1, 0, 1, 0), 48);
        yard.signal(2, 2, 0, 1, true);
        CHECK.due("the north", yard.toGo(0, 1, 0, 1, 0), 48);
        CHECK.due("in the south", yard.toGo(1, 1, 3, 2, 0), 7 + 15 + 7 + 7 + 10);
        yard.signal(2, 0, 0, 3, true);
        CHECK.due("the south", yard.toGo(0, 1, 0, 1, 0), 53);
        yard.track(2, 2, 0, false);
        CHECK.due("none", yard.toGo(0, 1, 0, 1, 0), -1);
        CHECK.due("none in the south", yard.toGo(1, 1, 3, 2, 0), -1);
        CHECK.due("beyond the gap", yard.toGo(3, 2, 4, 0, 0), 17);
    }

    private static void theLeastNumberOfTwo() {
        RailYard yard = Lay.twoWays();
        yard.station(4, 1, 0, 0);
        yard.train(0, 1, 0, 1, 1);
        yard.order(0, 0);
        yard.tick(1);
        int[] due = {
            Lay.code(1, 1, 3, 2), Lay.code(1, 2, 2, 1), Lay.code(2, 2, 0, 1), Lay.code(3, 2, 4, 0),
            Lay.code(3, 1, 5, 1), Lay.code(4, 1, 0, 1), -1
        };
        for (int k = 0; k < due.length; k++) {
            CHECK.due("held(0, " + k + ")", yard.held(0, k), due[k]);
        }
    }

    private static void theDearerOfTwo() {
        RailYard yard = Lay.twoWays();
        yard.station(4, 1, 0, 0);
        yard.signal(3, 2, 4, 0, true);
        yard.train(0, 1, 0, 1, 1);
        yard.order(0, 0);
        yard.tick(1);
        CHECK.due("the south is dearer", yard.held(0, 0), Lay.code(1, 1, 4, 0));
        CHECK.due("so it takes the north", yard.held(0, 2), Lay.code(2, 0, 0, 1));
        CHECK.due("up to the station", yard.held(0, 5), Lay.code(4, 1, 0, 1));
        CHECK.due("and no more", yard.held(0, 6), -1);
    }

    private static void wayRound() {
        RailYard yard = Lay.ring(new RailYard(4, 4), 3, 3);
        yard.station(1, 0, 0, 0);
        yard.signal(3, 1, 1, 2, true);
        yard.train(1, 0, 0, 1, 1);
        yard.order(0, 0);
        CHECK.due("tick(3): it loads where it stands", yard.tick(3), 0);
        CHECK.due("0 is to go", yard.toGo(1, 0, 0, 1, 0), 0);
        CHECK.due("tick(1): it goes round", yard.tick(1), 1);
        CHECK.due("up to the signal", yard.motion(0), 1002);
        CHECK.due("ahead", yard.held(0, 2), Lay.code(3, 1, 1, 2));
    }

    private static void theMapChanges() {
        RailYard yard = Lay.line(new RailYard(8, 3), 1, 7);
        yard.station(7, 1, 0, 0);
        CHECK.due("at first", yard.toGo(5, 1, 0, 1, 0), 20);
        yard.station(5, 1, 0, 0);
        CHECK.due("a new station", yard.toGo(2, 1, 0, 1, 1), 30);
        yard.signal(6, 1, 0, 1, true);
        CHECK.due("a signal", yard.toGo(5, 1, 0, 1, 0), 25);
        yard.track(6, 1, 0, false);
        CHECK.due("taken away", yard.toGo(5, 1, 0, 1, 0), -1);
        yard.track(6, 1, 0, true);
        CHECK.due("built again", yard.toGo(5, 1, 0, 1, 0), 20);
        yard.track(6, 1, 1, true);
        CHECK.due("a crossing is no matter", yard.toGo(5, 1, 0, 1, 0), 20);
        yard.train(6, 1, 0, 3, 1);
        CHECK.due("nor is a train", yard.toGo(5, 1, 0, 1, 0), 20);
    }

    private static void refused() {
        RailYard yard = Lay.line(new RailYard(8, 3), 1, 7);
        yard.station(5, 1, 0, 0);
        CHECK.due("toGo: no station", yard.toGo(1, 1, 0, 1, 1), -1);
        CHECK.due("toGo: no station", yard.toGo(1, 1, 0, 1, -1), -1);
        CHECK.due("toGo: no piece", yard.toGo(1, 1, 1, 0, 0), -1);
        CHECK.due("toGo: no piece 6", yard.toGo(1, 1, 6, 1, 0), -1);
        CHECK.due("toGo: no piece -1", yard.toGo(1, 1, -1, 1, 0), -1);
        CHECK.due("toGo: no tile", yard.toGo(8, 1, 0, 1, 0), -1);
        CHECK.due("toGo: no tile", yard.toGo(1, 3, 0, 1, 0), -1);
        CHECK.due("toGo: not its edge", yard.toGo(1, 1, 0, 2, 0), -1);
        CHECK.due("toGo: not its edge, on the station", yard.toGo(5, 1, 0, 0, 0), -1);
        CHECK.due("toGo: edge 5", yard.toGo(1, 1, 0, 5, 0), -1);
        CHECK.due("toGo: edge -1", yard.toGo(1, 1, 0, -1, 0), -1);
    }
}
