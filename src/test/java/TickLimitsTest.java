import java.util.function.Supplier;

/** The boundary cases of a tick, promises 8, 14, 15, 19 and 21, a sentence at a time. */
public final class TickLimitsTest {
    private static final Check CHECK = new Check("TickLimitsTest");
    private static final Refusal REFUSAL = new Refusal(CHECK);
    private static final int[] NO_TRAINS = {-1, 2, 3, 5, 6, 64, Integer.MIN_VALUE,
        Integer.MAX_VALUE};

    public static void main(String[] args) {
        howMany();
        howFarTogether();
        stationsFirst();
        byNumber();
        withoutOrders();
        twoTicksToLoad();
        thatIsAllInThisTick();
        asMuchAsWaitsAndItHasRoomFor();
        allItsLoadIsDelivered();
        greatestSpeed();
        movesOn();
        dueAndNoneAhead();
        dueUnlessItHasLoaded();
        motionOfATrain();
        loadOfNone();
        manyCalls();
        CHECK.end();
    }

    private static RailYard line() {
        return Lay.line(new RailYard(8, 3), 1, 7);
    }

    private static void howMany() {
        CHECK.about("8, 21: makes n ticks (0 .. 20); NONE for another n");
        int[] none = {-1, -20, 21, 22, 100, Integer.MIN_VALUE, Integer.MAX_VALUE};
        for (int n : none) {
            REFUSAL.of("tick(" + n + ")", () -> Lay.busy(8, 6), it -> it.tick(n), -1);
        }
        REFUSAL.of("tick(0)", () -> Lay.busy(8, 6), it -> it.tick(0), 0);
        CHECK.due("clock at first", new RailYard(3, 3).clock(), 0);
        for (int n = 0; n <= 20; n++) {
            RailYard at = Lay.busy(8, 6);
            RailYard one = Lay.busy(8, 6);
            int moved = 0;
            for (int i = 0; i < n; i++) {
                moved += one.tick(1);
            }
            CHECK.due("tick(" + n + ")", at.tick(n), moved);
            CHECK.due("clock", at.clock(), 3 + n);
            CHECK.same("tick(" + n + ") is as many of one", Picture.of(at), Picture.of(one));
        }
        REFUSAL.nothingChanged("clock()", () -> Lay.busy(8, 6), it -> it.clock());
    }

    private static void howFarTogether() {
        CHECK.about("8: answers by how many pieces all trains moved together");
        RailYard yard = new RailYard(8, 6);
        for (int y = 0; y < 6; y++) {
            Lay.line(yard, y, 7);
            yard.station(7, y, 0, 0);
            yard.train(y, y, 0, 1, 1);
            yard.order(y, y);
        }
        CHECK.due("tick(1)", yard.tick(1), 6);
        CHECK.due("tick(1)", yard.tick(1), 2 + 2 + 2 + 2 + 1 + 1);
        CHECK.due("tick(10)", yard.tick(10), 4 + 3 + 2 + 1 + 1 + 0);
        CHECK.due("tick(10)", yard.tick(10), 0);
    }

    private static void stationsFirst() {
        CHECK.about("Terms: first each station ...; then the trains");
        RailYard yard = line();
        yard.station(2, 1, 0, 6);
        yard.train(2, 1, 0, 1, 1);
        yard.order(0, 0);
        yard.tick(3);
        CHECK.due("load, this tick's cargo too", yard.load(0), 18);
        CHECK.due("waiting", yard.waiting(0), 0);
        RailYard full = line();
        full.station(2, 1, 0, 50);
        full.tick(9);
        full.train(2, 1, 0, 1, 1);
        full.order(0, 0);
        full.tick(3);
        CHECK.due("waiting: first 500, then 20 less", full.waiting(0), 480);
        CHECK.due("produced", full.produced(), 500);
    }

    private static void byNumber() {
        CHECK.about("Terms: then the trains by number");
        bothWantTheSame(new int[] {3, 1, 0, 1}, new int[] {4, 2, 1, 0}, Lay.code(4, 1, 0, 1));
        bothWantTheSame(new int[] {4, 2, 1, 0}, new int[] {3, 1, 0, 1}, Lay.code(4, 1, 5, 1));
        letGoInTime(0, 1, 1001);
        letGoInTime(1, 0, 0);
    }

    /** From the west and from the south to the station on (6, 1): the first one gets it. */
    private static void bothWantTheSame(int[] first, int[] second, int due) {
        RailYard yard = Lay.build(line(), new int[][] {{4, 1, 5}, {4, 2, 1}});
        yard.station(6, 1, 0, 0);
        yard.train(first[0], first[1], first[2], first[3], 1);
        yard.train(second[0], second[1], second[2], second[3], 1);
        yard.order(1, 0);
        yard.order(0, 0);
        CHECK.due("tick(1)", yard.tick(1), 1);
        CHECK.due("motion(0)", yard.motion(0), 1002);
        CHECK.due("held(0, 0)", yard.held(0, 0), due);
        CHECK.due("motion(1)", yard.motion(1), 0);
    }

    /** One before the other from signal to signal: the one behind can follow if it comes later. */
    private static void letGoInTime(int before, int behind, int due) {
        RailYard yard = line();
        yard.station(7, 1, 0, 0);
        yard.signal(3, 1, 0, 1, true);
        yard.signal(5, 1, 0, 1, true);
        yard.train(before == 0 ? 3 : 1, 1, 0, 1, 1);
        yard.train(before == 0 ? 1 : 3, 1, 0, 1, 1);
        yard.order(0, 0);
        yard.order(1, 0);
        yard.tick(1);
        CHECK.due("motion of the one before", yard.motion(before), 1001);
        CHECK.due("motion of the one behind", yard.motion(behind), due);
    }

    private static void withoutOrders() {
        CHECK.about("Terms: one without orders does nothing");
        Supplier<RailYard> scene = () -> {
            RailYard yard = line();
            yard.station(3, 1, 0, 5);
            yard.train(3, 1, 0, 1, 2);
            yard.train(6, 1, 0, 1, 2);
            return yard;
        };
        RailYard yard = scene.get();
        CHECK.due("tick(20)", yard.tick(20), 0);
        for (int t = 0; t < 2; t++) {
            CHECK.due("motion", yard.motion(t), 0);
            CHECK.due("load", yard.load(t), 0);
            CHECK.due("target", yard.target(t), -1);
        }
        CHECK.due("held", yard.held(0, 1), Lay.code(3, 1, 0, 1));
        CHECK.due("waiting", yard.waiting(0), 100);
        yard.order(0, 0);
        yard.tick(1);
        CHECK.due("motion with an order", yard.motion(0), 20000);
        CHECK.due("motion of the other", yard.motion(1), 0);
    }

    private static RailYard onAStation(int rate, int length) {
        RailYard yard = line();
        yard.station(5, 1, 0, rate);
        yard.train(5, 1, 0, 1, length);
        yard.order(0, 0);
        return yard;
    }

    private static void twoTicksToLoad() {
        CHECK.about("Terms: it is LOADING for 2 ticks; one tick less to load; when that is none");
        RailYard yard = onAStation(5, 1);
        int[] motion = {20000, 10000, 0, 0};
        int[] load = {0, 0, 15, 15};
        int[] waiting = {5, 10, 0, 5};
        for (int i = 0; i < motion.length; i++) {
            CHECK.due("tick " + (i + 1), yard.tick(1), 0);
            CHECK.due("motion", yard.motion(0), motion[i]);
            CHECK.due("load", yard.load(0), load[i]);
            CHECK.due("waiting", yard.waiting(0), waiting[i]);
        }
    }

    private static void thatIsAllInThisTick() {
        CHECK.about("Terms: and goes for its next order; that is all in this tick");
        RailYard yard = onAStation(5, 1);
        yard.station(7, 1, 0, 0);
        yard.order(0, 1);
        yard.tick(2);
        CHECK.due("target before", yard.target(0), 0);
        CHECK.due("tick 3", yard.tick(1), 0);
        CHECK.due("target", yard.target(0), 1);
        CHECK.due("motion", yard.motion(0), 0);
        CHECK.due("holder of the next", yard.holder(6, 1, 0), -1);
        CHECK.due("tick 4", yard.tick(1), 1);
        CHECK.due("motion", yard.motion(0), 1001);
        RailYard same = line();
        same.station(5, 1, 0, 5);
        same.train(5, 1, 0, 1, 1);
        same.order(0, 0);
        same.order(0, 0);
        same.tick(3);
        CHECK.due("its next is the same: it is not loading at once", same.motion(0), 0);
        CHECK.due("load", same.load(0), 15);
    }

    /** So much waits, of a rate of 1, when a train of some length is done with loading. */
    private static void asMuchAsWaitsAndItHasRoomFor() {
        CHECK.about("Terms, 15: as much as waits and it has room for: at most 20 times its length");
        for (int length = 1; length <= 5; length++) {
            int room = 20 * length;
            int[] some = {3, room - 1, room, room + 1, 2 * room};
            for (int waits : some) {
                RailYard yard = line();
                yard.station(5, 1, 0, 1);
                Lay.ticks(yard, waits - 3);
                yard.train(5, 1, 0, 1, length);
                yard.order(0, 0);
                yard.tick(3);
                String of = " of " + waits + ", length " + length;
                CHECK.due("load" + of, yard.load(0), Math.min(waits, room));
                CHECK.due("waiting" + of, yard.waiting(0), waits - Math.min(waits, room));
                CHECK.due("delivered" + of, yard.delivered(), 0);
            }
        }
        RailYard none = onAStation(0, 3);
        none.tick(3);
        CHECK.due("load where nothing waits", none.load(0), 0);
        CHECK.due("motion", none.motion(0), 0);
    }

    private static void allItsLoadIsDelivered() {
        CHECK.about("Terms, 19: all its load is delivered, then it loads");
        RailYard yard = onAStation(50, 2);
        yard.tick(3);
        CHECK.due("load", yard.load(0), 40);
        CHECK.due("delivered", yard.delivered(), 0);
        for (int i = 1; i <= 3; i++) {
            CHECK.due("reverse", yard.reverse(0), true);
            CHECK.due("reverse", yard.reverse(0), true);
            yard.tick(2);
            CHECK.due("load while it loads", yard.load(0), 40);
            CHECK.due("delivered while it loads", yard.delivered(), 40 * (i - 1));
            yard.tick(1);
            CHECK.due("load: it was empty and is full again", yard.load(0), 40);
            CHECK.due("delivered", yard.delivered(), 40 * i);
        }
        RailYard less = line();
        less.station(2, 1, 0, 9);
        less.station(5, 1, 0, 0);
        less.train(2, 1, 0, 1, 1);
        less.order(0, 0);
        less.order(0, 1);
        less.tick(3);
        CHECK.due("load", less.load(0), 20);
        less.tick(5);
        CHECK.due("load at the other", less.load(0), 0);
        CHECK.due("delivered", less.delivered(), 20);
        CHECK.due("target, the first again", less.target(0), 0);
    }

    /** How a train goes that has a station so many pieces before it. */
    private static void greatestSpeed() {
        CHECK.about("Terms: the greatest v from 0 to 3, not more than its speed before plus 1");
        int[][] moves = {
            {1}, {1, 1}, {1, 1, 1}, {1, 2, 1}, {1, 2, 1, 1}, {1, 2, 2, 1}, {1, 2, 2, 1, 1},
            {1, 2, 2, 2, 1}, {1, 2, 3, 2, 1}, {1, 2, 3, 2, 1, 1}, {1, 2, 3, 2, 2, 1},
            {1, 2, 3, 3, 2, 1}, {1, 2, 3, 3, 2, 1, 1}, {1, 2, 3, 3, 2, 2, 1},
            {1, 2, 3, 3, 3, 2, 1}, {1, 2, 3, 3, 3, 2, 1, 1}, {1, 2, 3, 3, 3, 2, 2, 1},
            {1, 2, 3, 3, 3, 3, 2, 1}, {1, 2, 3, 3, 3, 3, 2, 1, 1}, {1, 2, 3, 3, 3, 3, 2, 2, 1}
        };
        for (int i = 0; i < moves.length; i++) {
            RailYard yard = comesFrom(i + 1);
            int ahead = i + 1;
            for (int k = 0; k < moves[i].length; k++) {
                ahead -= moves[i][k];
                boolean last = k == moves[i].length - 1;
                CHECK.due("tick of " + (i + 1) + " pieces", yard.tick(1), moves[i][k]);
                CHECK.due("motion", yard.motion(0), last ? 20000 : 1000 * moves[i][k] + ahead);
            }
            CHECK.due("it is there", yard.held(0, 0), Lay.code(2, 5, 0, 3));
        }
    }

    /** On a ring of 24, so many pieces before a station. */
    private static RailYard comesFrom(int pieces) {
        RailYard yard = Lay.ring(new RailYard(8, 6), 7, 5);
        yard.station(2, 5, 0, 0);
        int[][] round = Lay.round(7, 5);
        int station = 16;
        int[] start = round[(station - pieces + round.length) % round.length];
        yard.train(start[0], start[1], start[2], start[3], 1);
        yard.order(0, 0);
        return yard;
    }

    private static void movesOn() {
        CHECK.about("Terms: the first one ahead becomes its head, the last of its body is let go");
        int[][] round = Lay.round(7, 5);
        for (int length = 1; length <= 5; length++) {
            RailYard yard = Lay.ring(new RailYard(8, 6), 7, 5);
            yard.station(2, 5, 0, 0);
            yard.train(5, 0, 0, 1, length);
            yard.order(0, 0);
            int head = 4;
            for (int i = 0; i < 6; i++) {
                head += yard.tick(1);
                for (int k = 0; k < length + 16 - head; k++) {
                    int[] run = round[head - length + 1 + k];
                    CHECK.due("held(0, " + k + ")", yard.held(0, k),
                        Lay.code(run[0], run[1], run[2], run[3]));
                    CHECK.due("holder", yard.holder(run[0], run[1], run[2]), 0);
                }
                CHECK.due("no more", yard.held(0, length + 16 - head), -1);
                int[] gone = round[head - length];
                CHECK.due("holder of what was let go",
                    yard.holder(gone[0], gone[1], gone[2]), -1);
            }
        }
    }

    private static void dueAndNoneAhead() {
        CHECK.about("Terms: if it is DUE then and has none ahead: its speed is 0, it is LOADING");
        RailYard yard = comesFrom(3);
        yard.tick(1);
        CHECK.due("due, but two ahead", yard.motion(0), 1002);
        yard.tick(1);
        CHECK.due("due, but one ahead", yard.motion(0), 1001);
        yard.tick(1);
        CHECK.due("due, and none ahead", yard.motion(0), 20000);
        RailYard other = line();
        other.station(2, 1, 0, 5);
        other.station(6, 1, 0, 5);
        other.train(2, 1, 0, 1, 1);
        other.order(0, 1);
        other.tick(1);
        CHECK.due("on a station that is not its target", other.motion(0), 1003);
        RailYard tail = line();
        tail.station(2, 1, 0, 5);
        tail.train(3, 1, 0, 1, 2);
        tail.order(0, 0);
        tail.tick(1);
        CHECK.due("with its last on its target, not its head", tail.motion(0), 0);
        RailYard across = line();
        across.track(2, 1, 1, true);
        across.station(2, 1, 0, 5);
        across.train(2, 1, 1, 0, 1);
        across.order(0, 0);
        across.tick(1);
        CHECK.due("on another piece of its tile", across.motion(0), 0);
    }

    private static void dueUnlessItHasLoaded() {
        CHECK.about("Terms: unless it has none ahead and has loaded since it moved or was turned");
        RailYard stays = onAStation(5, 1);
        stays.tick(3);
        for (int i = 0; i < 5; i++) {
            stays.tick(1);
            CHECK.due("it has loaded, so it stays", stays.motion(0), 0);
        }
        CHECK.due("load", stays.load(0), 15);
        RailYard again = Lay.ring(new RailYard(4, 4), 3, 3);
        again.station(1, 0, 0, 5);
        again.signal(3, 2, 1, 2, true);
        again.train(1, 0, 0, 1, 1);
        again.order(0, 0);
        again.tick(3);
        CHECK.due("it has loaded", again.load(0), 15);
        CHECK.due("tick(6): it moves round", again.tick(6), 12);
        CHECK.due("due again, as it moved", again.motion(0), 20000);
        again.tick(2);
        CHECK.due("delivered", again.delivered(), 15);
        CHECK.due("load", again.load(0), 20);
        RailYard next = line();
        next.station(2, 1, 0, 5);
        next.station(6, 1, 0, 5);
        next.train(2, 1, 0, 1, 1);
        next.order(0, 0);
        next.order(0, 1);
        next.tick(4);
        CHECK.due("it has loaded, and goes for another", next.motion(0), 1003);
        RailYard late = onAStation(5, 1);
        late.station(7, 1, 0, 0);
        late.tick(3);
        CHECK.due("order", late.order(0, 1), true);
        CHECK.due("tick(3): its target is the one that it has loaded at", late.tick(3), 0);
        CHECK.due("motion", late.motion(0), 0);
    }

    private static void motionOfATrain() {
        CHECK.about("14: ahead plus 1000 times its speed plus 10000 times ...; NONE when no train");
        for (int t : NO_TRAINS) {
            REFUSAL.of("motion(" + t + ")", () -> Lay.busy(8, 6), it -> it.motion(t), -1);
        }
        CHECK.due("motion(0)", Lay.busy(8, 6).motion(0), 3010);
        CHECK.due("motion(1)", Lay.busy(8, 6).motion(1), 0);
        REFUSAL.nothingChanged("motion(0)", () -> Lay.busy(8, 6), it -> it.motion(0));
        RailYard six = line();
        for (int t = 0; t < 6; t++) {
            CHECK.due("motion before there is one", six.motion(t), -1);
            six.train(t, 1, 0, 1, 1);
            CHECK.due("motion(" + t + ")", six.motion(t), 0);
        }
        CHECK.due("motion(6)", six.motion(6), -1);
    }

    private static void loadOfNone() {
        CHECK.about("15: NONE when there is no such train");
        for (int t : NO_TRAINS) {
            REFUSAL.of("load(" + t + ")", () -> Lay.busy(8, 6), it -> it.load(t), -1);
        }
        CHECK.due("load(1), the last train", Lay.busy(8, 6).load(1), 0);
        RailYard six = line();
        for (int t = 0; t < 6; t++) {
            CHECK.due("load before there is one", six.load(t), -1);
            six.train(t, 1, 0, 1, 1);
            CHECK.due("load(" + t + ")", six.load(t), 0);
        }
        CHECK.due("load(6)", six.load(6), -1);
        REFUSAL.nothingChanged("load(0)", () -> Lay.busy(8, 6), it -> it.load(0));
        REFUSAL.nothingChanged("delivered()", () -> Lay.busy(8, 6), it -> it.delivered());
    }

    private static void manyCalls() {
        CHECK.about("An object is used for at most 512 calls");
        RailYard yard = new RailYard(8, 6);
        yard.track(1, 1, 0, true);
        yard.station(1, 1, 0, 50);
        yard.train(1, 1, 0, 1, 1);
        yard.order(0, 0);
        for (int call = 5; call <= 512; call += 4) {
            CHECK.due("tick(20), call " + call, yard.tick(20), 0);
            CHECK.due("reverse, call " + (call + 1), yard.reverse(0), true);
            CHECK.due("delivered, call " + (call + 2), yard.delivered(), 5 * (call - 5));
            CHECK.due("clock, call " + (call + 3), yard.clock(), 5 * (call - 1));
        }
    }
}
