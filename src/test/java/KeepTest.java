/** Promises 22 save and 23 restore. */
public final class KeepTest {
    private static final Check CHECK = new Check("KeepTest");

    public static void main(String[] args) {
        atFirst();
        theMap();
        midway();
        thatItHasLoaded();
        keptLast();
        fullAgain();
        ordersAddedSince();
        nothingIsLeftOver();
        CHECK.end();
    }

    private static void atFirst() {
        RailYard yard = Lay.line(new RailYard(5, 4), 1, 4);
        yard.station(3, 1, 0, 5);
        yard.train(1, 1, 0, 1, 1);
        yard.order(0, 0);
        yard.tick(9);
        yard.restore();
        for (int x = 0; x < 5; x++) {
            CHECK.due("pieces", yard.pieces(x, 1), 0);
            CHECK.due("holder", yard.holder(x, 1, 0), -1);
        }
        CHECK.due("the map's size is as before", yard.pieces(4, 3), 0);
        CHECK.due("the map's size is as before", yard.pieces(5, 3), -1);
        CHECK.due("motion(0)", yard.motion(0), -1);
        CHECK.due("held(0, 0)", yard.held(0, 0), -1);
        CHECK.due("waiting(0)", yard.waiting(0), -1);
        CHECK.due("produced()", yard.produced(), 0);
        CHECK.due("delivered()", yard.delivered(), 0);
        CHECK.due("clock()", yard.clock(), 0);
        CHECK.due("blocked()", yard.blocked(), 0);
        CHECK.due("track", yard.track(1, 1, 0, true), true);
        CHECK.due("a new train has no orders", yard.train(1, 1, 0, 1, 1), 0);
        CHECK.due("target(0)", yard.target(0), -1);
        CHECK.due("load(0)", yard.load(0), 0);
    }

    private static void theMap() {
        RailYard yard = Lay.line(new RailYard(8, 3), 1, 7);
        yard.station(7, 1, 0, 1);
        yard.signal(4, 1, 0, 1, true);
        CHECK.due("toGo", yard.toGo(0, 1, 0, 1, 0), 75);
        yard.save();
        yard.signal(4, 1, 0, 1, false);
        yard.track(2, 1, 2, true);
        yard.track(0, 1, 0, false);
        yard.station(3, 1, 0, 1);
        yard.train(5, 1, 0, 1, 2);
        CHECK.due("toGo", yard.toGo(1, 1, 0, 1, 0), 60);
        yard.restore();
        CHECK.due("signals", yard.signals(4, 1, 0), 2);
        CHECK.due("pieces", yard.pieces(2, 1), 1);
        CHECK.due("pieces", yard.pieces(0, 1), 1);
        CHECK.due("waiting(0)", yard.waiting(0), 0);
        CHECK.due("waiting(1)", yard.waiting(1), -1);
        CHECK.due("motion(0)", yard.motion(0), -1);
        CHECK.due("holder", yard.holder(5, 1, 0), -1);
        CHECK.due("toGo", yard.toGo(0, 1, 0, 1, 0), 75);
        CHECK.due("a tile that was held", yard.track(5, 1, 1, true), true);
        CHECK.due("a station's number", yard.station(3, 1, 0, 2), 1);
        CHECK.due("to the new one", yard.toGo(0, 1, 0, 1, 1), 30);
    }

    /** A train that goes round from station to station, after some ticks. */
    private static RailYard onItsWay(int ticks) {
        RailYard yard = Lay.ring(new RailYard(8, 6), 7, 5);
        yard.station(3, 5, 0, 4);
        yard.station(3, 0, 0, 9);
        yard.train(1, 0, 0, 1, 2);
        yard.order(0, 0);
        yard.order(0, 1);
        Lay.ticks(yard, ticks);
        return yard;
    }

    private static void midway() {
        for (int i = 0; i < 30; i++) {
            RailYard yard = onItsWay(i);
            yard.save();
            yard.tick(10);
            yard.order(0, 1);
            yard.restore();
            CHECK.same("ten ticks after a restore at tick " + i, tenTicks(yard),
                tenTicks(onItsWay(i)));
            CHECK.due("clock()", yard.clock(), i + 10);
        }
        CHECK.due("the run came to something", onItsWay(29).delivered() > 0, true);
    }

    private static String tenTicks(RailYard yard) {
        StringBuilder answers = new StringBuilder();
        for (int i = 0; i < 10; i++) {
            answers.append(yard.tick(1)).append(' ').append(yard.motion(0)).append(' ');
            answers.append(yard.load(0)).append(' ').append(yard.target(0)).append(' ');
            answers.append(yard.waiting(0)).append(' ').append(yard.waiting(1)).append(' ');
            answers.append(yard.produced()).append(' ').append(yard.delivered()).append(' ');
            answers.append(yard.blocked()).append(' ').append(yard.clock()).append(' ');
            for (int k = 0; yard.held(0, k) >= 0; k++) {
                answers.append(yard.held(0, k)).append(',');
            }
        }
        return answers.toString();
    }

    private static void thatItHasLoaded() {
        RailYard yard = Lay.line(new RailYard(3, 3), 1, 2);
        yard.station(1, 1, 0, 7);
        yard.train(1, 1, 0, 1, 1);
        yard.order(0, 0);
        yard.save();
        yard.tick(3);
        yard.restore();
        yard.tick(1);
        CHECK.due("it had not", yard.motion(0), 20000);
        yard.tick(2);
        yard.save();
        yard.reverse(0);
        yard.tick(1);
        CHECK.due("turned", yard.motion(0), 20000);
        yard.restore();
        CHECK.due("not turned", yard.held(0, 0), Lay.code(1, 1, 0, 1));
        yard.tick(1);
        CHECK.due("it had", yard.motion(0), 0);
    }

    private static void keptLast() {
        RailYard yard = new RailYard(3, 3);
        yard.tick(1);
        yard.save();
        yard.tick(1);
        yard.save();
        yard.tick(1);
        yard.restore();
        CHECK.due("the later one", yard.clock(), 2);
        yard.tick(5);
        yard.track(1, 1, 1, true);
        yard.restore();
        CHECK.due("more than once", yard.clock(), 2);
        CHECK.due("more than once", yard.pieces(1, 1), 0);
        yard.restore();
        CHECK.due("and again", yard.clock(), 2);
    }

    private static void ordersAddedSince() {
        RailYard yard = Lay.line(new RailYard(8, 3), 1, 7);
        yard.station(7, 1, 0, 0);
        yard.train(1, 1, 0, 1, 1);
        yard.save();
        yard.order(0, 0);
        yard.restore();
        CHECK.due("no orders", yard.target(0), -1);
        CHECK.due("tick(1)", yard.tick(1), 0);
        for (int i = 1; i <= 6; i++) {
            CHECK.due("order " + i, yard.order(0, 0), true);
        }
        CHECK.due("order 7", yard.order(0, 0), false);
    }

    /** Whatever the train before was at when all was restored, a new one starts afresh. */
    private static void nothingIsLeftOver() {
        for (int ticks = 0; ticks <= 14; ticks++) {
            RailYard yard = new RailYard(8, 3);
            layWithTwoOrders(yard);
            yard.tick(ticks);
            yard.restore();
            layWithTwoOrders(yard);
            String when = "after a restore at tick " + ticks + ": ";
            CHECK.due(when + "target", yard.target(0), 0);
            CHECK.due(when + "motion", yard.motion(0), 0);
            CHECK.due(when + "load", yard.load(0), 0);
            CHECK.due(when + "waiting", yard.waiting(0), 0);
            yard.tick(1);
            CHECK.due(when + "it is due", yard.motion(0), 20000);
        }
    }

    private static void layWithTwoOrders(RailYard yard) {
        Lay.line(yard, 1, 7);
        yard.station(1, 1, 0, 3);
        yard.station(6, 1, 0, 4);
        yard.train(1, 1, 0, 1, 1);
        yard.order(0, 0);
        yard.order(0, 1);
    }

    private static void fullAgain() {
        RailYard yard = Lay.line(new RailYard(8, 3), 1, 7);
        yard.train(0, 1, 0, 1, 1);
        yard.save();
        for (int t = 1; t < 6; t++) {
            yard.train(t, 1, 0, 1, 1);
        }
        CHECK.due("full", yard.train(7, 1, 0, 1, 1), -2);
        yard.restore();
        CHECK.due("one only", yard.train(7, 1, 0, 1, 1), 1);
        CHECK.due("holder", yard.holder(3, 1, 0), -1);
        CHECK.due("holder", yard.holder(0, 1, 0), 0);
    }
}
