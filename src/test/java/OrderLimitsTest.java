import java.util.function.Supplier;

/** The boundary cases of orders, promises 6 and 16, a sentence at a time. */
public final class OrderLimitsTest {
    private static final Check CHECK = new Check("OrderLimitsTest");
    private static final Refusal REFUSAL = new Refusal(CHECK);
    private static final int[] IN_TURN = {0, 1, 2, 0, 2, 1};

    public static void main(String[] args) {
        noSuchTrain();
        noSuchStation();
        upToSix();
        afterTheLastTheFirst();
        goesForItsNextOrder();
        addedOnTheWay();
        targetOfNone();
        CHECK.end();
    }

    /** Three stations on a ring with two signals, and a train with the first of some orders. */
    private static RailYard withOrders(int many) {
        RailYard yard = Lay.ring(new RailYard(4, 4), 3, 3);
        yard.station(1, 0, 0, 5);
        yard.station(2, 3, 0, 6);
        yard.station(0, 1, 1, 7);
        yard.signal(3, 1, 1, 2, true);
        yard.signal(0, 2, 1, 0, true);
        yard.train(2, 0, 0, 1, 1);
        for (int i = 0; i < many; i++) {
            yard.order(0, IN_TURN[i]);
        }
        return yard;
    }

    private static void noSuchTrain() {
        CHECK.about("6: refused when there is no such train");
        int[] none = {-1, 1, 2, 5, 6, 64, Integer.MIN_VALUE, Integer.MAX_VALUE};
        for (int t : none) {
            for (int many = 0; many < 3; many++) {
                int orders = many;
                REFUSAL.of("order(" + t + ", 0)", () -> withOrders(orders),
                    it -> bit(it.order(t, 0)), 0);
            }
        }
        CHECK.due("order(0, 0)", withOrders(0).order(0, 0), true);
        Supplier<RailYard> nobody = () -> {
            RailYard yard = Lay.line(new RailYard(3, 3), 1, 2);
            yard.station(1, 1, 0, 5);
            return yard;
        };
        REFUSAL.of("order(0, 0) without trains", nobody, it -> bit(it.order(0, 0)), 0);
        RailYard six = Lay.line(new RailYard(8, 3), 1, 7);
        six.station(7, 1, 0, 5);
        for (int t = 0; t < 6; t++) {
            six.train(t, 1, 0, 1, 1);
        }
        CHECK.due("order(5, 0), the last train", six.order(5, 0), true);
        CHECK.due("order(6, 0)", six.order(6, 0), false);
    }

    private static void noSuchStation() {
        CHECK.about("6: refused when there is no such station");
        int[] none = {-1, 3, 4, 5, 6, 64, Integer.MIN_VALUE, Integer.MAX_VALUE};
        for (int s : none) {
            for (int many = 0; many < 3; many++) {
                int orders = many;
                REFUSAL.of("order(0, " + s + ")", () -> withOrders(orders),
                    it -> bit(it.order(0, s)), 0);
            }
        }
        CHECK.due("order(0, 2), the last station", withOrders(0).order(0, 2), true);
        RailYard six = Lay.line(new RailYard(8, 3), 1, 7);
        six.train(7, 1, 0, 1, 1);
        CHECK.due("order(0, 0) without stations", six.order(0, 0), false);
        for (int s = 0; s < 6; s++) {
            six.station(s, 1, 0, 5);
        }
        CHECK.due("order(0, 5)", six.order(0, 5), true);
        CHECK.due("order(0, 6)", six.order(0, 6), false);
    }

    private static void upToSix() {
        CHECK.about("6: refused when it has six");
        for (int many = 0; many < 6; many++) {
            RailYard yard = withOrders(many);
            CHECK.due("order " + (many + 1), yard.order(0, IN_TURN[many]), true);
        }
        for (int s = 0; s < 3; s++) {
            int again = s;
            REFUSAL.of("order 7", () -> withOrders(6), it -> bit(it.order(0, again)), 0);
            RailYard yard = withOrders(6);
            yard.order(0, s);
            serves("after a seventh was refused", yard, 6);
        }
        RailYard later = withOrders(6);
        later.tick(20);
        CHECK.due("order 7, on the way", later.order(0, 0), false);
        RailYard same = withOrders(0);
        for (int i = 1; i <= 6; i++) {
            CHECK.due("order of the same, " + i, same.order(0, 1), true);
        }
        CHECK.due("order of the same, 7", same.order(0, 1), false);
        same.train(1, 3, 0, 3, 1);
        CHECK.due("order of another train", same.order(1, 1), true);
    }

    private static void afterTheLastTheFirst() {
        CHECK.about("Terms: it goes for them in turn, after the last for the first again");
        for (int many = 1; many <= 6; many++) {
            serves(many + " orders", withOrders(many), many);
        }
    }

    /** A train's targets, each time that it has loaded there, for a little more than a round. */
    private static void serves(String name, RailYard yard, int many) {
        int served = 0;
        int before = yard.target(0);
        int motion = 0;
        for (int i = 0; i < 140 && served < many + 2; i++) {
            yard.tick(1);
            int after = yard.motion(0);
            if (motion / 10000 == 1) {
                CHECK.due(name + ": target " + served, before, IN_TURN[served % many]);
                CHECK.due(name + ": motion when it has loaded", after, 0);
                served++;
                before = yard.target(0);
                CHECK.due(name + ": its next", before, IN_TURN[served % many]);
            }
            motion = after;
        }
        CHECK.due(name + ": it has been round", served, many + 2);
    }

    private static RailYard onItsStation() {
        RailYard yard = Lay.line(new RailYard(8, 3), 1, 7);
        yard.station(2, 1, 0, 7);
        yard.station(6, 1, 0, 0);
        yard.train(2, 1, 0, 1, 1);
        yard.order(0, 0);
        return yard;
    }

    private static void goesForItsNextOrder() {
        CHECK.about("Terms: goes for its next order; that is all in this tick");
        RailYard one = onItsStation();
        one.tick(3);
        CHECK.due("target, the only one again", one.target(0), 0);
        CHECK.due("order", one.order(0, 1), true);
        CHECK.due("target, for one that came later", one.target(0), 0);
        RailYard two = onItsStation();
        two.tick(2);
        CHECK.due("target while it loads", two.target(0), 0);
        CHECK.due("order while it loads", two.order(0, 1), true);
        CHECK.due("target while it loads", two.target(0), 0);
        CHECK.due("tick(1)", two.tick(1), 0);
        CHECK.due("target when it has loaded", two.target(0), 1);
        CHECK.due("motion: no request yet", two.motion(0), 0);
        CHECK.due("held: nothing ahead", two.held(0, 1), -1);
        CHECK.due("tick(1): a tick later it goes", two.tick(1), 1);
        CHECK.due("motion", two.motion(0), 1003);
    }

    private static void addedOnTheWay() {
        CHECK.about("6: adds a station to a train's orders");
        RailYard yard = Lay.line(new RailYard(8, 3), 1, 7);
        yard.station(1, 1, 0, 0);
        yard.station(3, 1, 0, 0);
        yard.station(5, 1, 0, 0);
        yard.train(0, 1, 0, 1, 1);
        yard.order(0, 0);
        yard.order(0, 1);
        Lay.ticks(yard, 5);
        CHECK.due("target, the last", yard.target(0), 1);
        CHECK.due("order, on the way to the last", yard.order(0, 2), true);
        CHECK.due("target stays", yard.target(0), 1);
        yard.tick(3);
        CHECK.due("target, the one that was added", yard.target(0), 2);
    }

    private static void targetOfNone() {
        CHECK.about("16: NONE when there is no such train or it has no orders");
        int[] none = {-1, 1, 2, 5, 6, 64, Integer.MIN_VALUE, Integer.MAX_VALUE};
        for (int t : none) {
            REFUSAL.of("target(" + t + ")", () -> withOrders(2), it -> it.target(t), -1);
        }
        CHECK.due("target without orders", withOrders(0).target(0), -1);
        CHECK.due("target with one", withOrders(1).target(0), 0);
        CHECK.due("target with two", withOrders(2).target(0), 0);
        REFUSAL.nothingChanged("target(0)", () -> withOrders(2), it -> it.target(0));
    }

    private static long bit(boolean answer) {
        return answer ? 1 : 0;
    }
}
