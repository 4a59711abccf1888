/** Promises 5 train, 6 order, 7 reverse, 11 holder, 13 held, and 14 to 16 for trains that stand. */
public final class TrainTest {
    private static final Check CHECK = new Check("TrainTest");

    public static void main(String[] args) {
        aNewTrain();
        theBodyLiesBehind();
        theLeastNumberBehind();
        crossing();
        trainsRefused();
        sixAtTheMost();
        signalsAreNotLookedAt();
        orders();
        turning();
        turningRefused();
        CHECK.end();
    }

    private static void aNewTrain() {
        RailYard yard = new RailYard(3, 3);
        yard.track(2, 1, 5, true);
        CHECK.due("holder: nobody", yard.holder(2, 1, 5), -1);
        CHECK.due("train", yard.train(2, 1, 5, 2, 1), 0);
        CHECK.due("holder", yard.holder(2, 1, 5), 0);
        CHECK.due("holder: no piece", yard.holder(2, 1, 4), -1);
        CHECK.due("holder: no piece 6", yard.holder(2, 1, 6), -1);
        CHECK.due("holder: no piece -1", yard.holder(2, 1, -1), -1);
        CHECK.due("holder: no tile", yard.holder(3, 1, 5), -1);
        CHECK.due("held(0, 0)", yard.held(0, 0), 2 + 8 + 64 * 5 + 512 * 2);
        CHECK.due("held(0, 1)", yard.held(0, 1), -1);
        CHECK.due("held(0, -1)", yard.held(0, -1), -1);
        CHECK.due("held(1, 0)", yard.held(1, 0), -1);
        CHECK.due("held(-1, 0)", yard.held(-1, 0), -1);
        CHECK.due("motion(0)", yard.motion(0), 0);
        CHECK.due("load(0)", yard.load(0), 0);
        CHECK.due("target(0)", yard.target(0), -1);
        for (int t = -1; t < 7; t += 2) {
            CHECK.due("motion(" + t + ")", yard.motion(t), -1);
            CHECK.due("load(" + t + ")", yard.load(t), -1);
            CHECK.due("target(" + t + ")", yard.target(t), -1);
        }
        CHECK.due("tick(5)", yard.tick(5), 0);
        CHECK.due("without orders it does nothing", yard.motion(0), 0);
    }

    private static void theBodyLiesBehind() {
        RailYard yard = Lay.ring(new RailYard(4, 3), 2, 2);
        CHECK.due("train", yard.train(1, 0, 0, 1, 4), 0);
        CHECK.due("its last", yard.held(0, 0), Lay.code(0, 2, 2, 0));
        CHECK.due("second", yard.held(0, 1), Lay.code(0, 1, 1, 0));
        CHECK.due("third", yard.held(0, 2), Lay.code(0, 0, 5, 1));
        CHECK.due("its head", yard.held(0, 3), Lay.code(1, 0, 0, 1));
        CHECK.due("no more", yard.held(0, 4), -1);
        CHECK.due("holder", yard.holder(0, 2, 2), 0);
        CHECK.due("holder: before it", yard.holder(2, 0, 3), -1);
        CHECK.due("another", yard.train(1, 2, 0, 1, 1), 1);
        CHECK.due("holder", yard.holder(1, 2, 0), 1);
    }

    private static void theLeastNumberBehind() {
        RailYard yard = new RailYard(4, 3);
        yard.track(2, 1, 0, true);
        yard.track(1, 1, 5, true);
        yard.track(1, 1, 2, true);
        CHECK.due("train", yard.train(2, 1, 0, 1, 2), 0);
        CHECK.due("piece 2 rather than 5", yard.held(0, 0), Lay.code(1, 1, 2, 1));
        RailYard other = new RailYard(4, 3);
        other.track(2, 1, 0, true);
        other.track(1, 1, 1, true);
        other.track(1, 1, 5, true);
        CHECK.due("train", other.train(2, 1, 0, 1, 2), 0);
        CHECK.due("piece 1 has not the edge", other.held(0, 0), Lay.code(1, 1, 5, 1));
    }

    private static void crossing() {
        int[] apart = {-1, -1, 3, 2, 5, 4};
        int[] edge = {1, 2, 1, 3, 3, 2};
        for (int a = 0; a < 6; a++) {
            for (int b = 0; b < 6; b++) {
                RailYard yard = new RailYard(3, 3);
                yard.track(1, 1, a, true);
                yard.track(1, 1, b, true);
                yard.train(1, 1, a, edge[a], 1);
                CHECK.due("pieces " + a + " and " + b, yard.train(1, 1, b, edge[b], 1),
                    apart[a] == b ? 1 : -1);
                CHECK.due("holder of the second", yard.holder(1, 1, b),
                    a == b ? 0 : apart[a] == b ? 1 : -1);
            }
        }
    }

    private static void trainsRefused() {
        RailYard yard = Lay.line(new RailYard(8, 3), 1, 7);
        CHECK.due("train: no tile", yard.train(8, 1, 0, 1, 1), -1);
        CHECK.due("train: no tile", yard.train(1, -1, 0, 1, 1), -1);
        CHECK.due("train: no piece", yard.train(1, 1, 1, 0, 1), -1);
        CHECK.due("train: no piece 6", yard.train(1, 1, 6, 1, 1), -1);
        CHECK.due("train: no piece -1", yard.train(1, 1, -1, 1, 1), -1);
        CHECK.due("train: not its edge", yard.train(1, 1, 0, 0, 1), -1);
        CHECK.due("train: edge 4", yard.train(1, 1, 0, 4, 1), -1);
        CHECK.due("train: edge -1", yard.train(1, 1, 0, -1, 1), -1);
        CHECK.due("train: length 0", yard.train(1, 1, 0, 1, 0), -1);
        CHECK.due("train: length -1", yard.train(1, 1, 0, 1, -1), -1);
        CHECK.due("train: length 6", yard.train(7, 1, 0, 1, 6), -1);
        CHECK.due("train: beyond the map", yard.train(1, 1, 0, 1, 3), -1);
        CHECK.due("train: just on it", yard.train(1, 1, 0, 1, 2), 0);
        CHECK.due("train: over another", yard.train(4, 1, 0, 1, 4), -1);
        CHECK.due("train: up to another", yard.train(4, 1, 0, 1, 3), 1);
        yard.track(2, 0, 1, true);
        CHECK.due("nothing refused is held", yard.holder(5, 1, 0), -1);
        RailYard ring = Lay.ring(new RailYard(3, 3), 1, 1);
        CHECK.due("train: over itself", ring.train(0, 0, 5, 1, 5), -1);
        CHECK.due("train: round", ring.train(0, 0, 5, 1, 4), 0);
        RailYard knot = Lay.knot();
        CHECK.due("train: crossing itself", knot.train(2, 2, 1, 2, 5), -1);
        CHECK.due("train: not yet crossing", knot.train(2, 2, 1, 2, 4), 0);
    }

    private static void sixAtTheMost() {
        RailYard yard = Lay.line(new RailYard(8, 3), 1, 7);
        for (int t = 0; t < 6; t++) {
            CHECK.due("train", yard.train(t, 1, 0, 1, 1), t);
        }
        CHECK.due("train: a seventh", yard.train(6, 1, 0, 1, 1), -2);
        CHECK.due("train: wrong before full", yard.train(6, 1, 0, 1, 2), -1);
        CHECK.due("train: wrong before full", yard.train(6, 1, 0, 1, 0), -1);
        CHECK.due("train: wrong before full", yard.train(6, 0, 0, 1, 1), -1);
        CHECK.due("holder: nobody", yard.holder(6, 1, 0), -1);
        CHECK.due("motion(6)", yard.motion(6), -1);
    }

    private static void signalsAreNotLookedAt() {
        RailYard yard = Lay.line(new RailYard(8, 3), 1, 7);
        yard.signal(2, 1, 0, 3, true);
        yard.signal(3, 1, 0, 3, true);
        CHECK.due("train against signals", yard.train(3, 1, 0, 1, 3), 0);
        CHECK.due("held", yard.held(0, 0), Lay.code(1, 1, 0, 1));
    }

    private static void orders() {
        RailYard yard = Lay.lineWithEnds();
        CHECK.due("order: no train", yard.order(0, 0), false);
        yard.train(3, 1, 0, 1, 1);
        CHECK.due("order: no station", yard.order(0, 2), false);
        CHECK.due("order: no station", yard.order(0, -1), false);
        CHECK.due("order: no train", yard.order(-1, 0), false);
        CHECK.due("order: no train", yard.order(1, 0), false);
        CHECK.due("target: none", yard.target(0), -1);
        CHECK.due("order", yard.order(0, 1), true);
        CHECK.due("target", yard.target(0), 1);
        for (int i = 2; i <= 6; i++) {
            CHECK.due("order " + i, yard.order(0, 0), true);
            CHECK.due("target stays", yard.target(0), 1);
        }
        CHECK.due("order: a seventh", yard.order(0, 0), false);
    }

    private static void turning() {
        RailYard yard = Lay.ring(new RailYard(4, 3), 2, 2);
        yard.train(1, 0, 0, 1, 3);
        CHECK.due("reverse", yard.reverse(0), true);
        CHECK.due("its last was its head", yard.held(0, 0), Lay.code(1, 0, 0, 3));
        CHECK.due("the middle", yard.held(0, 1), Lay.code(0, 0, 5, 2));
        CHECK.due("its head was its last", yard.held(0, 2), Lay.code(0, 1, 1, 2));
        CHECK.due("no more", yard.held(0, 3), -1);
        CHECK.due("holder", yard.holder(0, 1, 1), 0);
        yard.station(1, 2, 0, 0);
        yard.order(0, 0);
        CHECK.due("tick(1)", yard.tick(1), 1);
        CHECK.due("it goes the other way", yard.held(0, 2), Lay.code(0, 2, 2, 1));
    }

    private static void turningRefused() {
        RailYard yard = Lay.line(new RailYard(8, 3), 1, 7);
        yard.station(7, 1, 0, 0);
        CHECK.due("reverse: no train", yard.reverse(0), false);
        CHECK.due("reverse: no train", yard.reverse(-1), false);
        CHECK.due("reverse: no train", yard.reverse(6), false);
        yard.signal(3, 1, 0, 1, true);
        yard.train(2, 1, 0, 1, 2);
        yard.order(0, 0);
        yard.tick(1);
        CHECK.due("motion", yard.motion(0), 1000);
        CHECK.due("reverse: on a signal, and moving", yard.reverse(0), false);
        yard.track(4, 1, 0, false);
        yard.tick(1);
        CHECK.due("motion", yard.motion(0), 0);
        CHECK.due("reverse: on a signal", yard.reverse(0), false);
        yard.track(4, 1, 0, true);
        CHECK.due("tick(2)", yard.tick(2), 3);
        CHECK.due("motion", yard.motion(0), 2001);
        CHECK.due("reverse: moving, with one ahead", yard.reverse(0), false);
        CHECK.due("tick(1)", yard.tick(1), 1);
        CHECK.due("motion", yard.motion(0), 20000);
        CHECK.due("reverse: loading", yard.reverse(0), false);
        yard.tick(1);
        CHECK.due("reverse: still loading", yard.reverse(0), false);
        yard.tick(1);
        CHECK.due("reverse", yard.reverse(0), true);
        CHECK.due("held", yard.held(0, 1), Lay.code(6, 1, 0, 3));
        RailYard against = Lay.line(new RailYard(8, 3), 1, 7);
        against.signal(3, 1, 0, 3, true);
        against.train(4, 1, 0, 1, 3);
        CHECK.due("reverse: on a signal, against it", against.reverse(0), false);
        CHECK.due("held: as before", against.held(0, 2), Lay.code(4, 1, 0, 1));
        RailYard moving = Lay.line(new RailYard(8, 3), 1, 7);
        moving.station(7, 1, 0, 0);
        moving.signal(2, 1, 0, 1, true);
        moving.train(1, 1, 0, 1, 2);
        moving.order(0, 0);
        CHECK.due("tick(1)", moving.tick(1), 1);
        moving.track(3, 1, 0, false);
        CHECK.due("speed without any ahead", moving.motion(0), 1000);
        CHECK.due("reverse: moving", moving.reverse(0), false);
    }
}
