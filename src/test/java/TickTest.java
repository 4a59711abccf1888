/** Promises 8 tick, 14 motion, 15 load, 16 target, 19 delivered and 21 clock. */
public final class TickTest {
    private static final Check CHECK = new Check("TickTest");

    public static void main(String[] args) {
        howManyTicks();
        fasterAndSlower();
        neverFasterThanThree();
        oneTickAtATime();
        fromSignalToSignal();
        wholeOrNotAtAll();
        itselfInTheWay();
        noMoreThanSixAsked();
        loading();
        dueAgainWhenTurned();
        ordersInTurn();
        roomAndCargo();
        byNumber();
        noWay();
        CHECK.end();
    }

    private static void howManyTicks() {
        RailYard yard = new RailYard(3, 3);
        CHECK.due("tick(0)", yard.tick(0), 0);
        CHECK.due("clock()", yard.clock(), 0);
        CHECK.due("tick(1)", yard.tick(1), 0);
        CHECK.due("clock()", yard.clock(), 1);
        CHECK.due("tick(20)", yard.tick(20), 0);
        CHECK.due("clock()", yard.clock(), 21);
        CHECK.due("tick(21)", yard.tick(21), -1);
        CHECK.due("tick(-1)", yard.tick(-1), -1);
        CHECK.due("tick(least)", yard.tick(Integer.MIN_VALUE), -1);
        CHECK.due("tick(greatest)", yard.tick(Integer.MAX_VALUE), -1);
        CHECK.due("clock()", yard.clock(), 21);
    }

    private static RailYard fifteenToGo() {
        RailYard yard = Lay.ring(new RailYard(8, 6), 7, 5);
        yard.station(3, 5, 0, 0);
        yard.train(1, 0, 0, 1, 1);
        yard.order(0, 0);
        return yard;
    }

    private static void fasterAndSlower() {
        RailYard yard = fifteenToGo();
        int[] moved = {1, 2, 3, 3, 3, 2, 1, 0};
        int[] motion = {1014, 2012, 3009, 3006, 3003, 2001, 20000, 10000};
        for (int i = 0; i < moved.length; i++) {
            CHECK.due("tick " + (i + 1), yard.tick(1), moved[i]);
            CHECK.due("motion after it", yard.motion(0), motion[i]);
        }
        CHECK.due("its place", yard.held(0, 0), Lay.code(3, 5, 0, 3));
        CHECK.due("it holds no more", yard.held(0, 1), -1);
        CHECK.due("what it passed is free", yard.holder(4, 5, 0), -1);
    }

    private static void neverFasterThanThree() {
        RailYard yard = Lay.ring(new RailYard(8, 6), 7, 5);
        yard.station(1, 5, 0, 0);
        yard.train(0, 1, 1, 0, 1);
        yard.order(0, 0);
        CHECK.due("tick(3): 19 granted", yard.tick(3), 6);
        CHECK.due("motion", yard.motion(0), 3013);
        CHECK.due("tick(1)", yard.tick(1), 3);
        CHECK.due("motion", yard.motion(0), 3010);
    }

    private static void oneTickAtATime() {
        RailYard yard = fifteenToGo();
        CHECK.due("tick(4): all together", yard.tick(4), 9);
        CHECK.due("motion", yard.motion(0), 3006);
        CHECK.due("its head", yard.held(0, 0), Lay.code(7, 3, 1, 2));
        CHECK.due("its last ahead", yard.held(0, 6), Lay.code(3, 5, 0, 3));
        CHECK.due("holder of the last ahead", yard.holder(3, 5, 0), 0);
        CHECK.due("clock()", yard.clock(), 4);
    }

    private static void fromSignalToSignal() {
        RailYard yard = Lay.line(new RailYard(8, 3), 1, 7);
        yard.station(7, 1, 0, 0);
        yard.signal(3, 1, 0, 1, true);
        yard.signal(4, 1, 0, 1, true);
        yard.signal(4, 1, 0, 3, true);
        yard.train(0, 1, 0, 1, 1);
        yard.order(0, 0);
        CHECK.due("tick(1)", yard.tick(1), 1);
        CHECK.due("up to and with the signal", yard.motion(0), 1002);
        CHECK.due("the last ahead", yard.held(0, 2), Lay.code(3, 1, 0, 1));
        CHECK.due("tick(1)", yard.tick(1), 2);
        CHECK.due("up to the next", yard.motion(0), 2001);
        CHECK.due("the last ahead", yard.held(0, 1), Lay.code(4, 1, 0, 1));
        CHECK.due("tick(1)", yard.tick(1), 2);
        CHECK.due("up to the station", yard.motion(0), 2002);
        CHECK.due("tick(1)", yard.tick(1), 1);
        CHECK.due("tick(1)", yard.tick(1), 1);
        CHECK.due("there", yard.motion(0), 20000);
    }

    private static void wholeOrNotAtAll() {
        RailYard yard = Lay.line(new RailYard(8, 3), 1, 7);
        yard.station(7, 1, 0, 0);
        yard.train(1, 1, 0, 1, 1);
        yard.train(6, 1, 0, 1, 1);
        yard.order(0, 0);
        CHECK.due("tick(3)", yard.tick(3), 0);
        CHECK.due("nothing ahead", yard.motion(0), 0);
        CHECK.due("nothing held", yard.holder(2, 1, 0), -1);
        yard.signal(5, 1, 0, 1, true);
        CHECK.due("tick(1): a safe place before it", yard.tick(1), 1);
        CHECK.due("up to there", yard.motion(0), 1003);
        CHECK.due("tick(4)", yard.tick(4), 3);
        CHECK.due("there it waits", yard.motion(0), 0);
        RailYard across = Lay.line(new RailYard(8, 3), 1, 7);
        across.station(7, 1, 0, 0);
        across.track(4, 1, 2, true);
        across.train(1, 1, 0, 1, 1);
        across.train(4, 1, 2, 0, 1);
        across.order(0, 0);
        CHECK.due("tick(3): another crosses", across.tick(3), 0);
        RailYard beside = new RailYard(4, 3);
        beside.track(0, 1, 0, true);
        beside.track(1, 1, 3, true);
        beside.track(1, 1, 2, true);
        beside.track(1, 2, 1, true);
        beside.station(1, 2, 1, 0);
        beside.train(0, 1, 0, 1, 1);
        beside.train(1, 1, 2, 0, 1);
        beside.order(0, 0);
        CHECK.due("tick(3): another does not cross", beside.tick(3), 2);
        CHECK.due("holder of 2", beside.holder(1, 1, 2), 1);
    }

    private static void itselfInTheWay() {
        RailYard yard = Lay.knot();
        yard.station(2, 3, 1, 0);
        yard.train(1, 2, 0, 1, 1);
        yard.order(0, 0);
        CHECK.due("toGo", yard.toGo(1, 2, 0, 1, 0), 51);
        CHECK.due("tick(3): two of its request cross", yard.tick(3), 0);
        CHECK.due("signal", yard.signal(3, 1, 3, 3, true), true);
        CHECK.due("toGo", yard.toGo(1, 2, 0, 1, 0), 56);
        int[] moved = {1, 1, 2, 1, 1, 0};
        int[] motion = {1002, 1001, 2002, 1001, 20000, 10000};
        for (int i = 0; i < moved.length; i++) {
            CHECK.due("tick " + (i + 4), yard.tick(1), moved[i]);
            CHECK.due("motion after it", yard.motion(0), motion[i]);
        }
    }

    private static void noMoreThanSixAsked() {
        RailYard yard = Lay.ring(new RailYard(8, 6), 7, 5);
        yard.station(3, 5, 0, 0);
        yard.signal(6, 0, 0, 1, true);
        yard.signal(7, 2, 1, 2, true);
        yard.signal(7, 4, 1, 2, true);
        yard.train(0, 1, 1, 0, 1);
        yard.order(0, 0);
        CHECK.due("tick(1): 7 granted", yard.tick(1), 1);
        CHECK.due("6 ahead", yard.motion(0), 1006);
        CHECK.due("tick(1): none asked", yard.tick(1), 2);
        CHECK.due("4 ahead", yard.motion(0), 2004);
        CHECK.due("tick(1): 3 more", yard.tick(1), 3);
        CHECK.due("4 ahead", yard.motion(0), 3004);
        CHECK.due("tick(1): 2 more", yard.tick(1), 3);
        CHECK.due("3 ahead", yard.motion(0), 3003);
        RailYard five = Lay.ring(new RailYard(8, 6), 7, 5);
        five.station(3, 5, 0, 0);
        five.signal(6, 0, 0, 1, true);
        five.signal(7, 2, 1, 2, true);
        five.train(0, 0, 5, 1, 1);
        five.order(0, 0);
        CHECK.due("tick(1): 6 granted", five.tick(1), 1);
        CHECK.due("5 ahead", five.motion(0), 1005);
        CHECK.due("tick(1): 3 more", five.tick(1), 2);
        CHECK.due("6 ahead", five.motion(0), 2006);
    }

    private static void loading() {
        RailYard yard = Lay.line(new RailYard(3, 3), 1, 2);
        yard.station(1, 1, 0, 7);
        yard.train(1, 1, 0, 1, 1);
        yard.order(0, 0);
        yard.tick(1);
        CHECK.due("loading at once", yard.motion(0), 20000);
        CHECK.due("nothing yet", yard.load(0), 0);
        yard.tick(1);
        CHECK.due("one tick less", yard.motion(0), 10000);
        CHECK.due("nothing yet", yard.load(0), 0);
        CHECK.due("waiting", yard.waiting(0), 14);
        yard.tick(1);
        CHECK.due("done", yard.motion(0), 0);
        CHECK.due("as much as it has room for", yard.load(0), 20);
        CHECK.due("waiting", yard.waiting(0), 1);
        CHECK.due("delivered()", yard.delivered(), 0);
        CHECK.due("target", yard.target(0), 0);
    }

    private static void dueAgainWhenTurned() {
        RailYard yard = Lay.line(new RailYard(3, 3), 1, 2);
        yard.station(1, 1, 0, 7);
        yard.train(1, 1, 0, 1, 1);
        yard.order(0, 0);
        yard.tick(3);
        CHECK.due("tick(5)", yard.tick(5), 0);
        CHECK.due("it has loaded", yard.motion(0), 0);
        CHECK.due("waiting", yard.waiting(0), 36);
        CHECK.due("reverse", yard.reverse(0), true);
        yard.tick(1);
        CHECK.due("due again", yard.motion(0), 20000);
        CHECK.due("waiting", yard.waiting(0), 43);
        yard.tick(2);
        CHECK.due("delivered()", yard.delivered(), 20);
        CHECK.due("load", yard.load(0), 20);
        CHECK.due("waiting", yard.waiting(0), 37);
    }

    private static void ordersInTurn() {
        RailYard yard = Lay.ring(new RailYard(4, 3), 2, 2);
        yard.station(1, 0, 0, 3);
        yard.station(1, 2, 0, 0);
        yard.train(0, 1, 1, 0, 1);
        yard.order(0, 0);
        yard.order(0, 0);
        yard.order(0, 1);
        CHECK.due("tick(2): to the first", yard.tick(2), 2);
        CHECK.due("motion", yard.motion(0), 20000);
        CHECK.due("tick(2): it loads", yard.tick(2), 0);
        CHECK.due("target: the second order", yard.target(0), 0);
        CHECK.due("load", yard.load(0), 12);
        CHECK.due("tick(5): round is itself in the way", yard.tick(5), 0);
        CHECK.due("blocked()", yard.blocked(), 1);
        yard.reverse(0);
        CHECK.due("tick(3): turned, it loads again", yard.tick(3), 0);
        CHECK.due("delivered()", yard.delivered(), 12);
        CHECK.due("load", yard.load(0), 20);
        CHECK.due("waiting", yard.waiting(0), 4);
        CHECK.due("target: the third", yard.target(0), 1);
        CHECK.due("tick(2): off, the other way", yard.tick(2), 3);
        CHECK.due("held", yard.held(0, 0), Lay.code(0, 2, 2, 1));
        CHECK.due("tick(1): there", yard.tick(1), 1);
        CHECK.due("tick(2): it loads", yard.tick(2), 0);
        CHECK.due("delivered()", yard.delivered(), 32);
        CHECK.due("load: nothing waits", yard.load(0), 0);
        CHECK.due("target: the first again", yard.target(0), 0);
        CHECK.due("order", yard.order(0, 1), true);
        CHECK.due("target stays", yard.target(0), 0);
    }

    private static void roomAndCargo() {
        for (int length = 1; length <= 5; length++) {
            RailYard yard = Lay.line(new RailYard(8, 3), 1, 7);
            yard.station(6, 1, 0, 50);
            yard.tick(10);
            yard.train(6, 1, 0, 1, length);
            yard.order(0, 0);
            yard.tick(3);
            CHECK.due("20 a piece", yard.load(0), 20 * length);
            CHECK.due("the rest waits", yard.waiting(0), 500 - 20 * length);
        }
    }

    private static void byNumber() {
        RailYard yard = Lay.line(new RailYard(8, 3), 1, 7);
        yard.station(7, 1, 0, 0);
        yard.signal(3, 1, 0, 1, true);
        yard.signal(5, 1, 0, 1, true);
        yard.train(3, 1, 0, 1, 1);
        yard.train(1, 1, 0, 1, 1);
        yard.order(0, 0);
        yard.order(1, 0);
        CHECK.due("tick(1): the first makes room", yard.tick(1), 2);
        CHECK.due("motion(0)", yard.motion(0), 1001);
        CHECK.due("motion(1)", yard.motion(1), 1001);
        RailYard other = Lay.line(new RailYard(8, 3), 1, 7);
        other.station(7, 1, 0, 0);
        other.signal(3, 1, 0, 1, true);
        other.signal(5, 1, 0, 1, true);
        other.train(1, 1, 0, 1, 1);
        other.train(3, 1, 0, 1, 1);
        other.order(0, 0);
        other.order(1, 0);
        CHECK.due("tick(1): the first finds none", other.tick(1), 1);
        CHECK.due("motion(0)", other.motion(0), 0);
        CHECK.due("motion(1)", other.motion(1), 1001);
    }

    private static void noWay() {
        RailYard yard = Lay.line(new RailYard(8, 3), 1, 7);
        yard.station(7, 1, 0, 0);
        yard.train(3, 1, 0, 3, 1);
        yard.order(0, 0);
        CHECK.due("tick(5)", yard.tick(5), 0);
        CHECK.due("motion", yard.motion(0), 0);
        CHECK.due("blocked: there is no request", yard.blocked(), 0);
        CHECK.due("target", yard.target(0), 0);
        yard.reverse(0);
        CHECK.due("tick(1)", yard.tick(1), 1);
    }
}
