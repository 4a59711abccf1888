import java.util.LinkedHashMap;
import java.util.Map;
import java.util.function.Supplier;

/** The boundary cases of promises 22 and 23, save and restore, a sentence at a time. */
public final class KeepLimitsTest {
    private static final Check CHECK = new Check("KeepLimitsTest");
    private static final int[] LATER = {0, 1, 2, 3, 4, 5, 7, 11, 20};

    public static void main(String[] args) {
        keepsAll();
        atFirst();
        keptLast();
        keptAndGoneOnWith();
        numbersGivenAgain();
        sixAndSix();
        aShorterOneInItsPlace();
        CHECK.end();
    }

    private static RailYard busy(int ticks) {
        RailYard yard = Lay.busy(5, 4);
        yard.track(3, 2, 0, true);
        yard.track(3, 2, 3, true);
        yard.signal(3, 2, 3, 2, true);
        yard.track(1, 2, 1, true);
        yard.tick(ticks);
        return yard;
    }

    /** All kinds of changes, each by a name; what is refused then and there does no harm. */
    private static Map<String, Refusal.Call> changes() {
        Map<String, Refusal.Call> changes = new LinkedHashMap<>();
        changes.put("track, build", it -> bit(it.track(3, 1, 0, true)));
        changes.put("track, take with a signal", it -> bit(it.track(3, 2, 3, false)));
        changes.put("track, take from the ring", it -> bit(it.track(1, 3, 0, false)));
        changes.put("signal, put", it -> bit(it.signal(3, 2, 0, 1, true)));
        changes.put("signal, put on the ring", it -> bit(it.signal(3, 3, 0, 1, true)));
        changes.put("signal, take", it -> bit(it.signal(3, 2, 3, 2, false)));
        changes.put("station", it -> it.station(1, 2, 1, 50));
        changes.put("train", it -> it.train(1, 2, 1, 0, 1));
        changes.put("order of one without", it -> bit(it.order(1, 0)));
        changes.put("order of one with some", it -> bit(it.order(0, 0)));
        changes.put("reverse", it -> bit(it.reverse(1)));
        changes.put("reverse of the other", it -> bit(it.reverse(0)));
        changes.put("tick(1)", it -> it.tick(1));
        changes.put("tick(2)", it -> it.tick(2));
        changes.put("tick(20)", it -> it.tick(20));
        changes.put("all of these", KeepLimitsTest::changeAll);
        return changes;
    }

    private static long changeAll(RailYard it) {
        it.station(1, 2, 1, 50);
        it.train(1, 2, 1, 0, 1);
        it.order(1, 0);
        it.reverse(1);
        it.track(3, 2, 3, false);
        it.track(3, 1, 0, true);
        it.tick(20);
        it.reverse(0);
        return it.tick(7);
    }

    private static void keepsAll() {
        CHECK.about("22, 23: keeps all as it is now (map, stations, trains, cargo, ..., clock)");
        for (int ticks = 0; ticks <= 20; ticks++) {
            int many = ticks;
            for (Map.Entry<String, Refusal.Call> change : changes().entrySet()) {
                for (int later : LATER) {
                    String name = change.getKey() + " at tick " + ticks + ", " + later + " later";
                    CHECK.same(name, changedBack(() -> busy(many), change.getValue(), later),
                        changedBack(() -> busy(many), it -> 0, later));
                }
            }
        }
    }

    private static String changedBack(Supplier<RailYard> scene, Refusal.Call change, int later) {
        RailYard yard = scene.get();
        yard.save();
        change.on(yard);
        yard.restore();
        return yard.tick(later) + " moved, " + Picture.of(yard);
    }

    private static void atFirst() {
        CHECK.about("23: at first as it was at first");
        int[][] sizes = {{3, 3}, {2, 9}, {8, 6}, {5, 4}, {9, 2}};
        for (int[] size : sizes) {
            RailYard fresh = new RailYard(size[0], size[1]);
            String due = Picture.of(fresh);
            RailYard untouched = new RailYard(size[0], size[1]);
            untouched.restore();
            CHECK.same("restore of a new one", Picture.of(untouched), due);
            RailYard used = Lay.line(new RailYard(size[0], size[1]), 1, 2);
            used.station(1, 1, 0, 5);
            used.signal(2, 1, 0, 1, true);
            used.train(0, 1, 0, 1, 1);
            used.order(0, 0);
            used.tick(9);
            used.restore();
            CHECK.same("restore of a used one", Picture.of(used), due);
        }
        RailYard twice = new RailYard(3, 3);
        for (int i = 0; i < 3; i++) {
            CHECK.due("track", twice.track(1, 1, 0, true), true);
            CHECK.due("station", twice.station(1, 1, 0, 9), 0);
            twice.tick(3);
            CHECK.due("produced", twice.produced(), 27);
            twice.restore();
            CHECK.due("pieces", twice.pieces(1, 1), 0);
            CHECK.due("produced", twice.produced(), 0);
            CHECK.due("clock", twice.clock(), 0);
        }
    }

    private static void keptLast() {
        CHECK.about("23: all is as it was when it was kept last");
        RailYard yard = busy(0);
        int clock = yard.clock();
        for (int i = 0; i < 5; i++) {
            yard.tick(1);
            yard.save();
            yard.tick(3);
            yard.restore();
            CHECK.due("clock", yard.clock(), clock + 1 + i);
            yard.restore();
            CHECK.due("clock, restored again", yard.clock(), clock + 1 + i);
        }
        yard.restore();
        yard.save();
        yard.tick(2);
        yard.restore();
        CHECK.due("clock, kept what was restored", yard.clock(), clock + 5);
    }

    private static void keptAndGoneOnWith() {
        CHECK.about("22: keeps all as it is now: what comes after is not kept");
        for (Map.Entry<String, Refusal.Call> change : changes().entrySet()) {
            RailYard yard = busy(2);
            change.getValue().on(yard);
            String before = Picture.of(yard);
            yard.save();
            CHECK.same("save changes nothing after " + change.getKey(), Picture.of(yard), before);
        }
        RailYard yard = busy(2);
        yard.save();
        for (int i = 0; i < 4; i++) {
            yard.tick(5 * i);
            yard.track(3, 1, i, true);
            yard.restore();
            CHECK.due("pieces", yard.pieces(3, 1), 0);
            CHECK.due("clock", yard.clock(), 5);
        }
    }

    /** Stations and trains that were restored away: their numbers and pieces are free again. */
    private static void numbersGivenAgain() {
        CHECK.about("23: stations and trains are as many as they were");
        RailYard yard = Lay.line(new RailYard(8, 3), 1, 7);
        Lay.line(yard, 2, 7);
        yard.station(0, 1, 0, 1);
        yard.train(0, 2, 0, 1, 1);
        yard.save();
        for (int round = 0; round < 2; round++) {
            for (int i = 1; i < 6; i++) {
                CHECK.due("station", yard.station(i, 1, 0, 1), i);
                CHECK.due("train", yard.train(i, 2, 0, 1, 1), i);
                CHECK.due("order", yard.order(i, i), true);
            }
            CHECK.due("station, a seventh", yard.station(6, 1, 0, 1), -2);
            CHECK.due("train, a seventh", yard.train(6, 2, 0, 1, 1), -2);
            yard.tick(2);
            yard.restore();
            CHECK.due("waiting(1)", yard.waiting(1), -1);
            CHECK.due("motion(1)", yard.motion(1), -1);
            CHECK.due("order(1, 0)", yard.order(1, 0), false);
            CHECK.due("order(0, 1)", yard.order(0, 1), false);
            CHECK.due("holder", yard.holder(1, 2, 0), -1);
            CHECK.due("toGo", yard.toGo(5, 1, 0, 3, 1), -1);
            CHECK.due("toGo", yard.toGo(5, 1, 0, 3, 0), 50);
        }
        CHECK.due("station elsewhere", yard.station(6, 1, 0, 4), 1);
        CHECK.due("toGo to where it is now", yard.toGo(7, 1, 0, 3, 1), 10);
        yard.tick(1);
        CHECK.due("waiting(1)", yard.waiting(1), 4);
    }

    private static void sixAndSix() {
        CHECK.about("22: all stations and all trains, six and six");
        RailYard yard = new RailYard(8, 6);
        for (int y = 0; y < 6; y++) {
            Lay.line(yard, y, 7);
            yard.station(6, y, 0, y + 1);
            yard.train(y / 2 + 1, y, 0, 1, 2);
            yard.order(y, y);
        }
        yard.tick(2);
        yard.save();
        int moved = yard.tick(7);
        int produced = yard.produced();
        yard.restore();
        for (int i = 0; i < 6; i++) {
            CHECK.due("waiting(" + i + ")", yard.waiting(i), 2 * (i + 1));
            CHECK.due("motion(" + i + ")", yard.motion(i), new int[] {2002, 2001, 1001}[i / 2]);
            CHECK.due("held(" + i + ", 0)", yard.held(i, 0),
                Lay.code(new int[] {3, 4, 4}[i / 2], i, 0, 1));
        }
        CHECK.due("tick(7)", yard.tick(7), moved);
        CHECK.due("produced", yard.produced(), produced);
    }

    /** What was left of a longer train on signals is nothing to the one that has its number now. */
    private static void aShorterOneInItsPlace() {
        CHECK.about("23: all is as it was: nothing of a train that was made since");
        RailYard yard = Lay.line(new RailYard(8, 3), 1, 7);
        for (int x = 0; x < 5; x++) {
            yard.signal(x, 1, 0, 1, true);
        }
        yard.save();
        CHECK.due("train", yard.train(5, 1, 0, 1, 5), 0);
        CHECK.due("reverse, on signals", yard.reverse(0), false);
        yard.restore();
        CHECK.due("train", yard.train(6, 1, 0, 1, 2), 0);
        CHECK.due("held", yard.held(0, 2), -1);
        CHECK.due("reverse, on none", yard.reverse(0), true);
    }

    private static long bit(boolean answer) {
        return answer ? 1 : 0;
    }
}
