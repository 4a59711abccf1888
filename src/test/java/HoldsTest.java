import java.util.ArrayList;
import java.util.List;
import java.util.Random;

/**
 * What the terms say of every train at any time, asked for through the face alone after ticks on
 * yards that are drawn from fixed seeds. It hangs on no model of what a tick does.
 */
public final class HoldsTest {
    private static final int YARDS = 1500;
    /** An object is used for no more. */
    private static final int CALLS = 512;
    /** Three trains with all the pieces of the map are far below it. */
    private static final int CALLS_OF_A_LOOK = 120;
    private static final int[][] JOINS = {{3, 1}, {0, 2}, {0, 1}, {2, 3}, {0, 3}, {1, 2}};

    private final Check check;
    private final Random random;
    private final RailYard yard;
    private final int right;
    private final int bottom;
    private final List<int[]> built = new ArrayList<>();
    private final List<Integer> stationCodes = new ArrayList<>();
    private final List<Integer> lengths = new ArrayList<>();
    private int calls;

    /** What was come by, so that the test can't go hollow unseen. */
    private static int rowsAhead;
    private static int topSpeeds;
    private static int loads;

    private HoldsTest(Check check, int seed) {
        this.check = check;
        random = new Random(seed);
        right = 2 + random.nextInt(6);
        bottom = 2 + random.nextInt(4);
        yard = new RailYard(right + 1, bottom + 1);
    }

    public static void main(String[] args) {
        Check check = new Check("HoldsTest");
        for (int seed = 1; seed <= YARDS; seed++) {
            new HoldsTest(check, seed).run();
        }
        check.due("there were rows ahead", rowsAhead > YARDS, true);
        check.due("trains ran at full speed", topSpeeds > YARDS / 10, true);
        check.due("trains had loads", loads > YARDS, true);
        check.end();
    }

    private void run() {
        lay();
        look();
        while (calls < CALLS - CALLS_OF_A_LOOK - 1) {
            count();
            yard.tick(random.nextInt(4) > 0 ? 1 : 1 + random.nextInt(20));
            look();
        }
    }

    private void count() {
        calls++;
        check.due("no more than 512 calls", calls <= CALLS, true);
    }

    /** A ring, some pieces more, signals that are met clockwise, stations and trains. */
    private void lay() {
        for (int[] run : Lay.round(right, bottom)) {
            track(run[0], run[1], run[2]);
        }
        for (int i = random.nextInt(12); i > 0; i--) {
            track(random.nextInt(right + 1), random.nextInt(bottom + 1), random.nextInt(6));
        }
        int[][] round = Lay.round(right, bottom);
        for (int i = random.nextInt(6); i > 0; i--) {
            int[] on = round[random.nextInt(round.length)];
            count();
            yard.signal(on[0], on[1], on[2], on[3], true);
        }
        for (int i = 0; i < 4; i++) {
            int[] on = built.get(random.nextInt(built.size()));
            count();
            if (yard.station(on[0], on[1], on[2], random.nextInt(51)) >= 0) {
                stationCodes.add(Lay.code(on[0], on[1], on[2], 0));
            }
        }
        for (int i = 0; i < 3; i++) {
            putTrain(round[random.nextInt(round.length)]);
        }
    }

    private void track(int x, int y, int piece) {
        count();
        if (yard.track(x, y, piece, true)) {
            built.add(new int[] {x, y, piece});
        }
    }

    private void putTrain(int[] on) {
        int length = 1 + random.nextInt(3);
        count();
        int t = yard.train(on[0], on[1], on[2], on[3], length);
        if (t < 0) {
            return;
        }
        lengths.add(length);
        for (int i = 0; i < 3 && !stationCodes.isEmpty(); i++) {
            count();
            yard.order(t, random.nextInt(stationCodes.size()));
        }
    }

    private void look() {
        List<Integer> allHeld = new ArrayList<>();
        int cargo = 0;
        for (int t = 0; t < lengths.size(); t++) {
            List<Integer> row = row(t);
            lookAtMotion(t, row);
            lookAtRow(row);
            allHeld.addAll(row);
            count();
            int load = yard.load(t);
            check.due("a load of at most 20 a piece", load >= 0 && load <= 20 * lengths.get(t),
                true);
            loads += load > 0 ? 1 : 0;
            cargo += load;
        }
        lookAtCrossings(allHeld);
        for (int s = 0; s < stationCodes.size(); s++) {
            count();
            int waiting = yard.waiting(s);
            check.due("at most 500 wait", waiting >= 0 && waiting <= 500, true);
            cargo += waiting;
        }
        count();
        cargo += yard.delivered();
        count();
        check.due("what was produced waits, rides or was delivered", cargo, yard.produced());
    }

    private List<Integer> row(int t) {
        List<Integer> row = new ArrayList<>();
        count();
        int code = yard.held(t, 0);
        while (code != RailYard.NONE) {
            row.add(code);
            count();
            check.due("holder", yard.holder(code % 8, code / 8 % 8, code / 64 % 8), t);
            count();
            code = yard.held(t, row.size());
        }
        return row;
    }

    /** From one safe place to the next, whole or not at all. */
    private void lookAtMotion(int t, List<Integer> row) {
        count();
        int motion = yard.motion(t);
        int ahead = motion % 1000;
        int speed = motion / 1000 % 10;
        int toLoad = motion / 10000;
        check.due("its body is as long as it was made", row.size() - ahead, lengths.get(t));
        check.due("a speed of 0 to 3", speed <= 3, true);
        check.due("it can still come to a stand", speed * (speed - 1) / 2 <= ahead, true);
        check.due("it loads for 2 ticks at most, standing",
            toLoad <= 2 && (toLoad == 0 || speed == 0 && ahead == 0), true);
        rowsAhead += ahead > 0 ? 1 : 0;
        topSpeeds += speed == 3 ? 1 : 0;
        if (ahead > 0) {
            check.due("its last piece ahead is a safe place", isSafe(row.get(row.size() - 1)),
                true);
        }
    }

    private boolean isSafe(int code) {
        int piece = code / 64 % 8;
        count();
        int signals = yard.signals(code % 8, code / 8 % 8, piece);
        int mine = JOINS[piece][0] == code / 512 ? 1 : 2;
        return (signals & mine) != 0 || stationCodes.contains(code % 512);
    }

    private void lookAtRow(List<Integer> row) {
        int[] dx = {0, 1, 0, -1};
        int[] dy = {-1, 0, 1, 0};
        for (int k = 1; k < row.size(); k++) {
            int code = row.get(k - 1);
            int edge = code / 512;
            int next = row.get(k);
            int piece = next / 64 % 8;
            int in = JOINS[piece][0] == next / 512 ? JOINS[piece][1] : JOINS[piece][0];
            check.due("each is behind the one before: x", next % 8, code % 8 + dx[edge]);
            check.due("each is behind the one before: y", next / 8 % 8, code / 8 % 8 + dy[edge]);
            check.due("each is come in by the opposite edge", in, (edge + 2) % 4);
        }
    }

    private void lookAtCrossings(List<Integer> held) {
        for (int i = 0; i < held.size(); i++) {
            for (int j = 0; j < i; j++) {
                int a = held.get(i) / 64 % 8;
                int b = held.get(j) / 64 % 8;
                boolean apart = a != b && (a + b == 5 && a / 2 == 1 || a + b == 9);
                check.due("no two that are held cross",
                    held.get(i) % 64 != held.get(j) % 64 || apart, true);
            }
        }
    }
}
