/** Track for the tests. */
final class Lay {
    private Lay() { }

    /** Straight track from (0, y) to (last, y). */
    static RailYard line(RailYard yard, int y, int last) {
        for (int x = 0; x <= last; x++) {
            yard.track(x, y, 0, true);
        }
        return yard;
    }

    /** Straight track from west to east; station 0 is on its west end, 1 on its east end. */
    static RailYard lineWithEnds() {
        RailYard yard = line(new RailYard(8, 3), 1, 7);
        yard.station(0, 1, 0, 0);
        yard.station(7, 1, 0, 0);
        return yard;
    }

    /**
     * Track from west to east that track from north to south crosses on (5, 3). Train 0 is ordered
     * to the east end, station 0; train 1, so long, to the south end, station 1.
     */
    static RailYard crossroads(int length) {
        RailYard yard = line(new RailYard(8, 6), 3, 7);
        for (int y = 0; y < 6; y++) {
            yard.track(5, y, 1, true);
        }
        yard.station(7, 3, 0, 0);
        yard.station(5, 5, 1, 0);
        yard.train(0, 3, 0, 1, 1);
        yard.train(5, 1, 1, 2, length);
        yard.order(0, 0);
        yard.order(1, 1);
        return yard;
    }

    /** A ring with its corners at (0, 0) and (right, bottom). */
    static RailYard ring(RailYard yard, int right, int bottom) {
        yard.track(0, 0, 5, true);
        yard.track(right, 0, 3, true);
        yard.track(0, bottom, 2, true);
        yard.track(right, bottom, 4, true);
        for (int x = 1; x < right; x++) {
            yard.track(x, 0, 0, true);
            yard.track(x, bottom, 0, true);
        }
        for (int y = 1; y < bottom; y++) {
            yard.track(0, y, 1, true);
            yard.track(right, y, 1, true);
        }
        return yard;
    }

    /**
     * Two ways of the same sum, 48, from (0, 1) eastwards to (4, 1): by piece 4 of (1, 1) and the
     * north, or by piece 3 and the south.
     */
    static RailYard twoWays() {
        return build(new RailYard(6, 3), new int[][] {
            {0, 1, 0}, {1, 1, 3}, {1, 1, 4}, {1, 0, 5}, {2, 0, 0}, {3, 0, 3}, {1, 2, 2}, {2, 2, 0},
            {3, 2, 4}, {3, 1, 2}, {3, 1, 5}, {4, 1, 0}
        });
    }

    /** A way from (1, 2) eastwards to (2, 3) that comes over tile (2, 2) twice, crosswise. */
    static RailYard knot() {
        return build(new RailYard(5, 5), new int[][] {
            {1, 2, 0}, {2, 2, 0}, {3, 2, 4}, {3, 1, 3}, {2, 1, 5}, {2, 2, 1}, {2, 3, 1}
        });
    }

    /** Five pieces one behind the other, from 2 of (1, 1) to 3 of the same tile. */
    static RailYard curl() {
        return build(new RailYard(4, 4), new int[][] {
            {1, 1, 2}, {2, 1, 3}, {2, 2, 4}, {1, 2, 2}, {1, 1, 3}
        });
    }

    /** The same turned by a quarter: from 5 of (2, 1) to 4 of the same tile. */
    static RailYard otherCurl() {
        return build(new RailYard(4, 4), new int[][] {
            {2, 1, 5}, {2, 2, 4}, {1, 2, 2}, {1, 1, 5}, {2, 1, 4}
        });
    }

    static RailYard build(RailYard yard, int[][] track) {
        for (int[] piece : track) {
            yard.track(piece[0], piece[1], piece[2], true);
        }
        return yard;
    }

    /** The pieces of that ring, clockwise from (1, 0) on: x, y, piece, edge. */
    static int[][] round(int right, int bottom) {
        int[][] runs = new int[2 * (right + bottom)][];
        int n = 0;
        for (int x = 1; x <= right; x++) {
            runs[n++] = x < right ? new int[] {x, 0, 0, 1} : new int[] {x, 0, 3, 2};
        }
        for (int y = 1; y <= bottom; y++) {
            runs[n++] = y < bottom ? new int[] {right, y, 1, 2} : new int[] {right, y, 4, 3};
        }
        for (int x = right - 1; x >= 0; x--) {
            runs[n++] = x > 0 ? new int[] {x, bottom, 0, 3} : new int[] {x, bottom, 2, 0};
        }
        for (int y = bottom - 1; y >= 0; y--) {
            runs[n++] = y > 0 ? new int[] {0, y, 1, 0} : new int[] {0, y, 5, 1};
        }
        return runs;
    }

    /**
     * Something of everything on a map of 5 by 4 at the least: a ring run through clockwise from
     * signal to signal, two stations, a train on its way with pieces ahead, one without orders in
     * the middle, and a state kept some ticks ago.
     */
    static RailYard busy(int width, int height) {
        RailYard yard = ring(new RailYard(width, height), width - 1, height - 1);
        yard.station(2, 0, 0, 7);
        yard.station(2, height - 1, 0, 3);
        yard.signal(width - 1, 1, 1, 2, true);
        yard.signal(0, height - 2, 1, 0, true);
        yard.train(1, 0, 0, 1, 2);
        yard.order(0, 1);
        yard.order(0, 0);
        yard.track(2, 1, 4, true);
        yard.track(2, 1, 5, true);
        yard.train(2, 1, 4, 3, 1);
        yard.tick(2);
        yard.save();
        yard.tick(1);
        return yard;
    }

    /** More ticks than one call makes. */
    static void ticks(RailYard yard, int n) {
        for (int left = n; left > 0; left -= 20) {
            yard.tick(Math.min(left, 20));
        }
    }

    /** What held() answers for a piece that is run through towards an edge. */
    static int code(int x, int y, int piece, int edge) {
        return x + 8 * y + 64 * piece + 512 * edge;
    }
}
