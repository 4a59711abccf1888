import java.util.function.Supplier;

/** The boundary cases of promise 20, blocked, a sentence at a time. */
public final class BlockedLimitsTest {
    private static final Check CHECK = new Check("BlockedLimitsTest");
    private static final Refusal REFUSAL = new Refusal(CHECK);

    public static void main(String[] args) {
        hasOrders();
        isNotDueNorLoading();
        hasSpeedZeroAndNoneAhead();
        canBeGranted();
        thereIsOne();
        waitsForItself();
        twoOfItsRequestCross();
        waitsForWhatOneHasAhead();
        eachWaitsForOneOfTheSet();
        theGreatestSet();
        aRingOfSix();
        changesNothing();
        CHECK.end();
    }

    /** Stations 0 in the west, 1 in the east, 2 on (5, 1); train 0 on (2, 1) goes for 1. */
    private static RailYard oneFromTheWest() {
        RailYard yard = Lay.lineWithEnds();
        yard.station(5, 1, 0, 3);
        yard.train(2, 1, 0, 1, 1);
        yard.order(0, 1);
        return yard;
    }

    private static RailYard faceToFace() {
        RailYard yard = oneFromTheWest();
        yard.train(5, 1, 0, 3, 1);
        yard.order(1, 0);
        return yard;
    }

    private static void hasOrders() {
        CHECK.about("Terms: a train that has orders");
        RailYard yard = oneFromTheWest();
        CHECK.due("blocked: the way is free", yard.blocked(), 0);
        yard.train(5, 1, 0, 3, 1);
        CHECK.due("blocked: the other has no orders", yard.blocked(), 0);
        yard.order(1, 0);
        CHECK.due("blocked: both have", yard.blocked(), 3);
        CHECK.due("blocked: no trains", new RailYard(3, 3).blocked(), 0);
    }

    private static void isNotDueNorLoading() {
        CHECK.about("Terms: is not loading, not DUE");
        RailYard yard = oneFromTheWest();
        yard.train(5, 1, 0, 3, 1);
        yard.order(1, 2);
        yard.order(1, 0);
        CHECK.due("blocked: it is due", yard.blocked(), 0);
        yard.tick(1);
        CHECK.due("motion", yard.motion(1), 20000);
        CHECK.due("blocked: it is loading", yard.blocked(), 0);
        yard.tick(1);
        CHECK.due("motion", yard.motion(1), 10000);
        CHECK.due("blocked: it is loading", yard.blocked(), 0);
        yard.tick(1);
        CHECK.due("motion", yard.motion(1), 0);
        CHECK.due("blocked: it has loaded", yard.blocked(), 3);
        RailYard round = Lay.ring(new RailYard(4, 4), 3, 3);
        round.station(1, 0, 0, 0);
        round.train(1, 0, 0, 1, 1);
        round.order(0, 0);
        int[] blocked = {0, 0, 0, 1, 1};
        for (int ticks = 0; ticks < blocked.length; ticks++) {
            CHECK.due("blocked, itself in its way round, tick " + ticks,
                round.blocked(), blocked[ticks]);
            round.tick(1);
        }
        round.reverse(0);
        CHECK.due("blocked: turned, it is due again", round.blocked(), 0);
    }

    private static void hasSpeedZeroAndNoneAhead() {
        CHECK.about("Terms: has speed 0 and none ahead");
        RailYard yard = Lay.lineWithEnds();
        yard.signal(3, 1, 0, 1, true);
        yard.signal(3, 1, 0, 3, true);
        yard.train(1, 1, 0, 1, 1);
        yard.train(5, 1, 0, 3, 1);
        yard.order(0, 1);
        yard.order(1, 0);
        int[] motion = {1001, 1000, 0};
        int[] blocked = {0, 0, 3};
        for (int i = 0; i < motion.length; i++) {
            yard.tick(1);
            CHECK.due("motion", yard.motion(0), motion[i]);
            CHECK.due("motion of the other", yard.motion(1), 0);
            CHECK.due("blocked at motion " + motion[i], yard.blocked(), blocked[i]);
        }
    }

    private static void canBeGranted() {
        CHECK.about("Terms: whose request can't be granted");
        CHECK.due("blocked", faceToFace().blocked(), 3);
        RailYard yard = faceToFace();
        yard.signal(3, 1, 0, 1, true);
        yard.signal(3, 1, 0, 3, true);
        CHECK.due("blocked: each has a safe place before it", yard.blocked(), 0);
        RailYard beside = faceToFace();
        beside.signal(3, 1, 0, 3, true);
        CHECK.due("blocked: one has no way now", beside.blocked(), 0);
        RailYard far = faceToFace();
        far.signal(6, 1, 0, 1, true);
        CHECK.due("blocked: the safe place is behind the other", far.blocked(), 3);
    }

    private static void thereIsOne() {
        CHECK.about("Terms: (but there is one)");
        RailYard yard = faceToFace();
        yard.track(1, 1, 0, false);
        CHECK.due("blocked: no way for the second", yard.blocked(), 0);
        yard.track(1, 1, 0, true);
        CHECK.due("blocked", yard.blocked(), 3);
        yard.track(6, 1, 0, false);
        CHECK.due("blocked: no way for the first", yard.blocked(), 0);
    }

    private static void waitsForItself() {
        CHECK.about("Terms: waits for each train, itself too, that holds a piece which crosses");
        int[][] round = Lay.round(3, 3);
        for (int length = 2; length <= 5; length++) {
            RailYard yard = Lay.ring(new RailYard(4, 4), 3, 3);
            yard.station(1, 0, 0, 0);
            int[] head = round[length - 1];
            yard.train(head[0], head[1], head[2], head[3], length);
            yard.order(0, 0);
            CHECK.due("blocked: its last is on its target", yard.blocked(), 1);
            RailYard free = Lay.ring(new RailYard(4, 4), 3, 3);
            free.station(1, 0, 0, 0);
            head = round[length];
            free.train(head[0], head[1], head[2], head[3], length);
            free.order(0, 0);
            CHECK.due("blocked: its last is just before it", free.blocked(), 0);
        }
    }

    private static void twoOfItsRequestCross() {
        CHECK.about("Terms: and for itself when two of its request cross");
        RailYard yard = Lay.knot();
        yard.station(2, 3, 1, 0);
        yard.train(1, 2, 0, 1, 1);
        yard.order(0, 0);
        CHECK.due("blocked", yard.blocked(), 1);
        yard.signal(2, 1, 5, 2, true);
        CHECK.due("blocked: up to a signal they don't", yard.blocked(), 0);
        RailYard curl = Lay.curl();
        curl.track(1, 0, 1, true);
        curl.track(0, 1, 0, true);
        curl.station(0, 1, 0, 0);
        curl.train(1, 0, 1, 2, 1);
        curl.order(0, 0);
        CHECK.due("blocked: 2 and 3 don't", curl.blocked(), 0);
        RailYard second = Lay.knot();
        second.track(0, 0, 0, true);
        second.station(2, 3, 1, 0);
        second.train(0, 0, 0, 1, 1);
        second.train(1, 2, 0, 1, 1);
        second.order(1, 0);
        CHECK.due("blocked: it is the second", second.blocked(), 2);
    }

    private static void waitsForWhatOneHasAhead() {
        CHECK.about("Terms: that holds a piece: one that it has ahead too");
        RailYard yard = Lay.crossroads(2);
        yard.tick(1);
        CHECK.due("the first goes", yard.motion(0), 1006);
        CHECK.due("the second stands", yard.motion(1), 0);
        CHECK.due("blocked: it waits for one that goes", yard.blocked(), 0);
    }

    /** Train 2 waits for 0 and 1, which are blocked, and for 3, which has no orders at first. */
    private static void eachWaitsForOneOfTheSet() {
        CHECK.about("Terms: of which each waits for one of the set");
        RailYard yard = Lay.lineWithEnds();
        yard.train(3, 1, 0, 1, 1);
        yard.train(6, 1, 0, 3, 1);
        yard.train(0, 1, 0, 1, 1);
        yard.train(1, 1, 0, 1, 1);
        yard.order(0, 1);
        yard.order(1, 0);
        CHECK.due("blocked: 0 and 1", yard.blocked(), 3);
        yard.order(2, 1);
        CHECK.due("blocked: 2 waits for 0, 1 and 3", yard.blocked(), 7);
        yard.order(3, 1);
        CHECK.due("blocked: 3 waits for 0 and 1", yard.blocked(), 15);
        RailYard parked = Lay.line(new RailYard(8, 3), 1, 7);
        parked.station(7, 1, 0, 0);
        parked.train(3, 1, 0, 1, 1);
        parked.train(6, 1, 0, 3, 1);
        parked.train(1, 1, 0, 1, 1);
        parked.order(0, 0);
        parked.order(2, 0);
        CHECK.due("blocked: all wait for one without orders", parked.blocked(), 0);
    }

    private static void theGreatestSet() {
        CHECK.about("Terms: the greatest set of such trains");
        RailYard yard = new RailYard(8, 6);
        for (int row = 0; row < 3; row++) {
            Lay.line(yard, 2 * row, 7);
            yard.station(0, 2 * row, 0, 0);
            yard.station(7, 2 * row, 0, 0);
        }
        for (int row = 0; row < 3; row++) {
            yard.train(2, 2 * row, 0, 1, 1);
        }
        for (int row = 0; row < 3; row++) {
            yard.train(5, 2 * row, 0, 3, 1);
        }
        int due = 0;
        int[] rows = {1, 0, 2};
        for (int row : rows) {
            yard.order(row, 2 * row + 1);
            CHECK.due("blocked: half of a pair more", yard.blocked(), due);
            yard.order(3 + row, 2 * row);
            due |= 1 << row | 1 << 3 + row;
            CHECK.due("blocked: a pair more", yard.blocked(), due);
        }
        CHECK.due("blocked: all", due, 63);
    }

    /**
     * Six on a ring of 12, each with the next one in its way; of one of them the order can be
     * wanting. Their numbers go round with the ring or against it.
     */
    private static RailYard sixOnARing(int without, boolean against) {
        RailYard yard = Lay.ring(new RailYard(4, 4), 3, 3);
        int[][] round = Lay.round(3, 3);
        int[] targets = {3, 4, 6, 9, 10, 0};
        for (int at : targets) {
            yard.station(round[at][0], round[at][1], round[at][2], 0);
        }
        for (int t = 0; t < 6; t++) {
            int[] head = round[against ? 10 - 2 * t : 2 * t];
            yard.train(head[0], head[1], head[2], head[3], 1);
        }
        for (int t = 0; t < 6; t++) {
            if (t != without) {
                yard.order(t, against ? 5 - t : t);
            }
        }
        return yard;
    }

    private static void aRingOfSix() {
        CHECK.about("Terms: those that wait for one another in a ring can be told");
        for (int i = 0; i < 2; i++) {
            boolean against = i > 0;
            CHECK.due("blocked: all six", sixOnARing(-1, against).blocked(), 63);
            RailYard later = sixOnARing(-1, against);
            CHECK.due("tick(20)", later.tick(20), 0);
            CHECK.due("blocked: all six, later", later.blocked(), 63);
            for (int without = 0; without < 6; without++) {
                CHECK.due("blocked: one without orders",
                    sixOnARing(without, against).blocked(), 0);
            }
        }
    }

    private static void changesNothing() {
        CHECK.about("20: it is asked, and changes nothing");
        Supplier<RailYard> busy = () -> Lay.busy(8, 6);
        REFUSAL.nothingChanged("blocked", busy, it -> it.blocked());
        REFUSAL.nothingChanged("blocked", BlockedLimitsTest::faceToFace, it -> it.blocked());
        REFUSAL.nothingChanged("blocked", BlockedLimitsTest::oneFromTheWest, it -> it.blocked());
    }
}
