/** All that can be asked of a yard, as a text. */
final class Picture {
    /** A yard is used for 512 calls at most, and some of them it has behind it. */
    private static final int MOST_CALLS = 400;
    private static final int[][] JOINS = {{3, 1}, {0, 2}, {0, 1}, {2, 3}, {0, 3}, {1, 2}};

    private final RailYard yard;
    private final StringBuilder text = new StringBuilder();
    private int calls;

    private Picture(RailYard yard) {
        this.yard = yard;
    }

    static String of(RailYard yard) {
        Picture picture = new Picture(yard);
        picture.takeNumbers();
        picture.takeStations();
        picture.takeTrains();
        picture.takeMap();
        if (picture.calls > MOST_CALLS) {
            throw new IllegalStateException("a picture of " + picture.calls + " calls");
        }
        return picture.text.toString();
    }

    private int put(String what, int answer) {
        calls++;
        text.append(what).append('=').append(answer).append(' ');
        return answer;
    }

    private void takeNumbers() {
        put("clock", yard.clock());
        put("produced", yard.produced());
        put("delivered", yard.delivered());
        put("blocked", yard.blocked());
    }

    private void takeStations() {
        for (int s = 0; s < 6; s++) {
            put("waiting" + s, yard.waiting(s));
        }
    }

    private void takeTrains() {
        for (int t = 0; t < 6; t++) {
            if (put("motion" + t, yard.motion(t)) < 0) {
                continue;
            }
            put("load" + t, yard.load(t));
            put("target" + t, yard.target(t));
            int k = 0;
            while (put("held" + t, yard.held(t, k)) >= 0) {
                k++;
            }
        }
    }

    private void takeMap() {
        for (int y = 0; y < 6; y++) {
            for (int x = 0; x < 8; x++) {
                int pieces = put("pieces" + x + y, yard.pieces(x, y));
                for (int piece = 0; piece < 6 && pieces > 0; piece++) {
                    if ((pieces >> piece & 1) != 0) {
                        takePiece(x, y, piece);
                    }
                }
            }
        }
    }

    private void takePiece(int x, int y, int piece) {
        put("signals", yard.signals(x, y, piece));
        put("holder", yard.holder(x, y, piece));
        put("toGo", yard.toGo(x, y, piece, JOINS[piece][0], 0));
        put("toGo", yard.toGo(x, y, piece, JOINS[piece][1], 0));
        put("toGo", yard.toGo(x, y, piece, JOINS[piece][1], 1));
    }
}
