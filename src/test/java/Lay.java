/** Track for the tests. */
final class Lay {
    private Lay() { }

    /** Straight track from (0, y) to (last, y). */
    static RailYard line(RailYard yard, int y, int last) {
        for (int x = 0; x <= last; x++) {
            yard.track(x, y, 0, true);
        }
        return yard;
    }

    /** A ring with its corners at (0, 0) and (right, bottom). */
    static RailYard ring(RailYard yard, int right, int bottom) {
        yard.track(0, 0, 5, true);
        yard.track(right, 0, 3, true);
        yard.track(0, bottom, 2, true);
        yard.track(right, bottom, 4, true);
        for (int x = 1; x < right; x++) {
            yard.track(x, 0, 0, true);
            yard.track(x, bottom, 0, true);
        }
        for (int y = 1; y < bottom; y++) {
            yard.track(0, y, 1, true);
            yard.track(right, y, 1, true);
        }
        return yard;
    }

    /**
     * Two ways of the same sum, 48, from (0, 1) eastwards to (4, 1): by piece 4 of (1, 1) and the
     * north, or by piece 3 and the south.
     */
    static RailYard twoWays() {
        RailYard yard = new RailYard(6, 3);
        int[][] track = {
            {0, 1, 0}, {1, 1, 3}, {1, 1, 4}, {1, 0, 5}, {2, 0, 0}, {3, 0, 3}, {1, 2, 2}, {2, 2, 0},
            {3, 2, 4}, {3, 1, 2}, {3, 1, 5}, {4, 1, 0}
        };
        for (int[] piece : track) {
            yard.track(piece[0], piece[1], piece[2], true);
        }
        return yard;
    }

    /** A way from (1, 2) eastwards to (2, 3) that comes over tile (2, 2) twice, crosswise. */
    static RailYard knot() {
        RailYard yard = new RailYard(5, 5);
        int[][] track = {
            {1, 2, 0}, {2, 2, 0}, {3, 2, 4}, {3, 1, 3}, {2, 1, 5}, {2, 2, 1}, {2, 3, 1}
        };
        for (int[] piece : track) {
            yard.track(piece[0], piece[1], piece[2], true);
        }
        return yard;
    }

    /** What held() answers for a piece that is run through towards an edge. */
    static int code(int x, int y, int piece, int edge) {
        return x + 8 * y + 64 * piece + 512 * edge;
    }
}
