import java.util.function.Supplier;

/** The boundary cases of promise 7, reverse, a sentence at a time. */
public final class ReverseLimitsTest {
    private static final Check CHECK = new Check("ReverseLimitsTest");
    private static final Refusal REFUSAL = new Refusal(CHECK);
    /** The two edges of each piece, added. */
    private static final int[] EDGE_SUMS = {4, 2, 1, 5, 3, 3};

    public static void main(String[] args) {
        turnsAbout();
        noSuchTrain();
        speedIsNotZero();
        isLoading();
        hasAPieceAhead();
        bodyHasASignal();
        loadedSinceItWasTurned();
        CHECK.end();
    }

    private static RailYard line() {
        return Lay.line(new RailYard(8, 3), 1, 7);
    }

    private static void turnsAbout() {
        CHECK.about("7: its body's last piece becomes its head, everything in the other direction");
        int[][] round = Lay.round(4, 3);
        for (int length = 1; length <= 5; length++) {
            for (int head = 0; head < round.length; head++) {
                RailYard yard = Lay.ring(new RailYard(5, 4), 4, 3);
                int[] first = round[head];
                yard.train(first[0], first[1], first[2], first[3], length);
                String before = Picture.of(yard);
                CHECK.due("reverse", yard.reverse(0), true);
                for (int k = 0; k < length; k++) {
                    int[] run = round[(head - k + round.length) % round.length];
                    int back = EDGE_SUMS[run[2]] - run[3];
                    CHECK.due("held(0, " + k + ") of " + length, yard.held(0, k),
                        Lay.code(run[0], run[1], run[2], back));
                    CHECK.due("holder", yard.holder(run[0], run[1], run[2]), 0);
                }
                CHECK.due("no more", yard.held(0, length), -1);
                CHECK.due("reverse again", yard.reverse(0), true);
                CHECK.same("turned twice", Picture.of(yard), before);
            }
        }
    }

    private static void noSuchTrain() {
        CHECK.about("7: refused when there is no such train");
        int[] none = {-1, 2, 3, 5, 6, 64, Integer.MIN_VALUE, Integer.MAX_VALUE};
        for (int t : none) {
            REFUSAL.of("reverse(" + t + ")", () -> Lay.busy(8, 6), it -> bit(it.reverse(t)), 0);
        }
        CHECK.due("reverse(1), without orders", Lay.busy(8, 6).reverse(1), true);
        RailYard six = line();
        for (int t = 0; t < 6; t++) {
            CHECK.due("reverse before there is one", six.reverse(t), false);
            six.train(t, 1, 0, 1, 1);
            CHECK.due("reverse", six.reverse(t), true);
        }
        CHECK.due("reverse(6)", six.reverse(6), false);
    }

    /** Head on the signal of (2, 1), from where no track leads on. */
    private static RailYard onASignal(int length) {
        RailYard yard = line();
        yard.station(7, 1, 0, 0);
        yard.signal(2, 1, 0, 1, true);
        yard.train(1, 1, 0, 1, length);
        yard.order(0, 0);
        yard.tick(1);
        yard.track(3, 1, 0, false);
        return yard;
    }

    private static RailYard onItsWay(int ticks) {
        RailYard yard = line();
        yard.station(7, 1, 0, 0);
        yard.train(0, 1, 0, 1, 1);
        yard.order(0, 0);
        yard.tick(ticks);
        return yard;
    }

    /** A train that moves has some ahead, or its head is on a signal: no other reason is alone. */
    private static void speedIsNotZero() {
        CHECK.about("7: refused when its speed is not 0");
        CHECK.due("speed 1 and none ahead", onASignal(1).motion(0), 1000);
        REFUSAL.of("reverse at speed 1", () -> onASignal(1), it -> bit(it.reverse(0)), 0);
        REFUSAL.of("reverse at speed 1", () -> onASignal(2), it -> bit(it.reverse(0)), 0);
        int[] motion = {0, 1006, 2004, 2002, 1001};
        for (int ticks = 1; ticks <= 4; ticks++) {
            int many = ticks;
            CHECK.due("motion", onItsWay(ticks).motion(0), motion[ticks]);
            REFUSAL.of("reverse on its way", () -> onItsWay(many), it -> bit(it.reverse(0)), 0);
        }
        CHECK.due("reverse before", onItsWay(0).reverse(0), true);
        CHECK.due("reverse at the end", onItsWay(7).reverse(0), true);
    }

    private static RailYard arrived(int ticks) {
        RailYard yard = line();
        yard.station(3, 1, 0, 6);
        yard.train(2, 1, 0, 1, 1);
        yard.order(0, 0);
        yard.tick(ticks);
        return yard;
    }

    private static void isLoading() {
        CHECK.about("7: refused when it is loading");
        CHECK.due("reverse before", arrived(0).reverse(0), true);
        CHECK.due("two ticks to load", arrived(1).motion(0), 20000);
        REFUSAL.of("reverse with two to load", () -> arrived(1), it -> bit(it.reverse(0)), 0);
        CHECK.due("one tick to load", arrived(2).motion(0), 10000);
        REFUSAL.of("reverse with one to load", () -> arrived(2), it -> bit(it.reverse(0)), 0);
        CHECK.due("it has loaded", arrived(3).motion(0), 0);
        CHECK.due("reverse when it has loaded", arrived(3).reverse(0), true);
    }

    private static void hasAPieceAhead() {
        CHECK.about("7: refused when it has a piece ahead");
        for (int ticks = 1; ticks <= 2; ticks++) {
            int many = ticks;
            Supplier<RailYard> scene = () -> {
                RailYard yard = line();
                yard.station(5, 1, 0, 6);
                yard.train(2, 1, 0, 1, 2);
                yard.order(0, 0);
                yard.tick(many);
                return yard;
            };
            CHECK.due("ahead", scene.get().motion(0), ticks == 1 ? 1002 : 1001);
            REFUSAL.of("reverse with some ahead", scene, it -> bit(it.reverse(0)), 0);
        }
    }

    private static void bodyHasASignal() {
        CHECK.about("7: refused when a piece of its body has a signal");
        for (int length = 1; length <= 5; length++) {
            for (int x = 0; x < 8; x++) {
                for (int signals = 1; signals < 4; signals++) {
                    onSignals(length, x, signals, 1);
                    onSignals(length, x, signals, 3);
                }
            }
        }
        RailYard yard = line();
        yard.track(3, 1, 2, true);
        yard.signal(3, 1, 2, 0, true);
        yard.train(4, 1, 0, 1, 3);
        CHECK.due("reverse, a signal on another piece of a tile", yard.reverse(0), true);
    }

    /** The body is on (6, 1) and as many as its length before it, or as many from (1, 1) on. */
    private static void onSignals(int length, int x, int signals, int edge) {
        Supplier<RailYard> scene = () -> {
            RailYard yard = line();
            if ((signals & 1) != 0) {
                yard.signal(x, 1, 0, 3, true);
            }
            if ((signals & 2) != 0) {
                yard.signal(x, 1, 0, 1, true);
            }
            yard.train(edge == 1 ? 6 : 1, 1, 0, edge, length);
            return yard;
        };
        boolean under = edge == 1 ? x <= 6 && x > 6 - length : x >= 1 && x < 1 + length;
        String name = "reverse, signals " + signals + " on " + x + ", length " + length;
        if (under) {
            REFUSAL.of(name, scene, it -> bit(it.reverse(0)), 0);
        } else {
            CHECK.due(name, scene.get().reverse(0), true);
        }
    }

    /** On the station with its head, on a signal with its last, and it has loaded. */
    private static RailYard loadedOnASignal() {
        RailYard yard = line();
        yard.station(3, 1, 0, 6);
        yard.signal(2, 1, 0, 1, true);
        yard.train(3, 1, 0, 1, 2);
        yard.order(0, 0);
        yard.tick(3);
        return yard;
    }

    private static void loadedSinceItWasTurned() {
        CHECK.about("Terms: has loaded since it moved or was turned last");
        CHECK.due("it has loaded", loadedOnASignal().load(0), 18);
        REFUSAL.of("reverse, refused", ReverseLimitsTest::loadedOnASignal,
            it -> bit(it.reverse(0)), 0);
        RailYard refused = loadedOnASignal();
        refused.reverse(0);
        refused.tick(1);
        CHECK.due("not due when that was refused", refused.motion(0), 0);
        RailYard turned = arrived(3);
        turned.tick(4);
        CHECK.due("not due again by itself", turned.motion(0), 0);
        CHECK.due("reverse", turned.reverse(0), true);
        CHECK.due("it stands as before", turned.motion(0), 0);
        turned.tick(1);
        CHECK.due("due again when turned", turned.motion(0), 20000);
        turned.tick(2);
        CHECK.due("delivered", turned.delivered(), 18);
        CHECK.due("it has loaded again", turned.load(0), 20);
        RailYard twice = arrived(3);
        twice.reverse(0);
        twice.reverse(0);
        twice.tick(1);
        CHECK.due("due again when turned twice", twice.motion(0), 20000);
    }

    private static long bit(boolean answer) {
        return answer ? 1 : 0;
    }
}
