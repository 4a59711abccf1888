import java.util.function.Supplier;

/**
 * "A call that is refused changes nothing." Of a scene two yards are made alike, one of which gets
 * the refused call; all that can be asked must be the same of both, at once and later: what can't
 * be asked (the orders, what was kept, whether a train has loaded) comes to light in later ticks.
 */
final class Refusal {
    interface Call {
        long on(RailYard yard);
    }

    private static final int[] TICKS = {0, 1, 2, 3, 7, 20};

    private final Check check;

    Refusal(Check check) {
        this.check = check;
    }

    void of(String name, Supplier<RailYard> scene, Call call, long due) {
        check.due(name, call.on(scene.get()), due);
        nothingChanged(name, scene, call);
    }

    void nothingChanged(String name, Supplier<RailYard> scene, Call call) {
        for (int ticks : TICKS) {
            check.same("after " + name + " and " + ticks + " ticks",
                later(scene, call, ticks), later(scene, yard -> 0, ticks));
        }
        check.same("after " + name + " and restore()", kept(scene, call), kept(scene, yard -> 0));
    }

    private static String later(Supplier<RailYard> scene, Call call, int ticks) {
        RailYard yard = scene.get();
        call.on(yard);
        int moved = ticks > 0 ? yard.tick(ticks) : 0;
        return moved + " moved, " + Picture.of(yard);
    }

    private static String kept(Supplier<RailYard> scene, Call call) {
        RailYard yard = scene.get();
        call.on(yard);
        yard.restore();
        return Picture.of(yard);
    }
}
