/** Promise 20 blocked. */
public final class BlockedTest {
    private static final Check CHECK = new Check("BlockedTest");

    public static void main(String[] args) {
        faceToFace();
        oneThatWaitsForThem();
        noRing();
        itself();
        whoIsNotBlocked();
        aRingOfThree();
        CHECK.end();
    }

    private static void faceToFace() {
        RailYard yard = Lay.lineWithEnds();
        yard.train(2, 1, 0, 1, 1);
        yard.train(5, 1, 0, 3, 1);
        CHECK.due("without orders", yard.blocked(), 0);
        yard.order(0, 1);
        CHECK.due("one alone", yard.blocked(), 0);
        yard.order(1, 0);
        CHECK.due("both, before any tick", yard.blocked(), 3);
        yard.tick(2);
        CHECK.due("both", yard.blocked(), 3);
        CHECK.due("asking holds nothing", yard.holder(3, 1, 0), -1);
        yard.reverse(1);
        CHECK.due("the other has no way now", yard.blocked(), 0);
    }

    private static void oneThatWaitsForThem() {
        RailYard yard = Lay.lineWithEnds();
        yard.signal(4, 1, 0, 1, true);
        yard.signal(4, 1, 0, 3, true);
        yard.train(1, 1, 0, 1, 1);
        yard.train(3, 1, 0, 1, 1);
        yard.train(5, 1, 0, 3, 1);
        yard.train(6, 1, 0, 1, 1);
        yard.order(0, 1);
        yard.order(1, 1);
        yard.order(2, 0);
        CHECK.due("free to the signal", yard.blocked(), 0);
        CHECK.due("tick(3): 1 goes there", yard.tick(3), 1);
        CHECK.due("2 faces it, 0 waits at its back", yard.held(1, 0), Lay.code(4, 1, 0, 1));
        CHECK.due("0, 1 and 2", yard.blocked(), 7);
        yard.order(3, 1);
        CHECK.due("3 is free", yard.blocked(), 7);
        CHECK.due("tick(1): 3 goes", yard.tick(1), 1);
        CHECK.due("the others don't", yard.blocked(), 7);
    }

    private static void noRing() {
        RailYard yard = Lay.lineWithEnds();
        yard.train(1, 1, 0, 1, 1);
        yard.train(3, 1, 0, 1, 1);
        yard.train(5, 1, 0, 1, 1);
        yard.order(0, 1);
        yard.order(1, 1);
        CHECK.due("0 for 1, 1 for 2, which has no orders", yard.blocked(), 0);
        yard.order(2, 0);
        CHECK.due("2 has no way", yard.blocked(), 0);
    }

    private static void itself() {
        RailYard yard = Lay.knot();
        yard.station(2, 3, 1, 0);
        yard.train(1, 2, 0, 1, 1);
        yard.order(0, 0);
        CHECK.due("two of its request cross", yard.blocked(), 1);
        yard.signal(3, 1, 3, 3, true);
        CHECK.due("it can be granted", yard.blocked(), 0);
        RailYard ring = Lay.ring(new RailYard(4, 3), 2, 2);
        ring.station(1, 0, 0, 0);
        ring.train(1, 0, 0, 1, 1);
        ring.order(0, 0);
        CHECK.due("it is due", ring.blocked(), 0);
        ring.tick(1);
        CHECK.due("it loads", ring.blocked(), 0);
        ring.tick(2);
        CHECK.due("it is itself in the way", ring.blocked(), 1);
        ring.reverse(0);
        CHECK.due("it is due again", ring.blocked(), 0);
    }

    private static void whoIsNotBlocked() {
        RailYard yard = Lay.lineWithEnds();
        yard.signal(3, 1, 0, 1, true);
        yard.signal(3, 1, 0, 3, true);
        yard.train(1, 1, 0, 1, 1);
        yard.train(5, 1, 0, 3, 1);
        yard.order(0, 1);
        yard.order(1, 0);
        CHECK.due("tick(1): 0 has the signal", yard.tick(1), 1);
        CHECK.due("it has one ahead", yard.motion(0), 1001);
        CHECK.due("1 waits for one that moves", yard.blocked(), 0);
        CHECK.due("tick(1)", yard.tick(1), 1);
        CHECK.due("none ahead, but a speed", yard.motion(0), 1000);
        CHECK.due("it still has a speed", yard.blocked(), 0);
        CHECK.due("tick(1)", yard.tick(1), 0);
        CHECK.due("now both", yard.blocked(), 3);
    }

    /** Three round a ring, each with another one before it. */
    private static void aRingOfThree() {
        RailYard yard = Lay.ring(new RailYard(3, 3), 2, 2);
        yard.station(1, 0, 0, 0);
        yard.station(2, 1, 1, 0);
        yard.station(1, 2, 0, 0);
        yard.train(0, 0, 5, 1, 3);
        yard.train(2, 0, 3, 2, 2);
        yard.train(2, 2, 4, 3, 2);
        yard.order(0, 1);
        yard.order(1, 2);
        yard.order(2, 0);
        CHECK.due("2 waits for 0, 0 for 1, 1 for 2", yard.blocked(), 7);
        CHECK.due("tick(5)", yard.tick(5), 0);
        CHECK.due("so they stay", yard.blocked(), 7);
    }
}
