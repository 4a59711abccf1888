/** The boundary cases of requests, and when they can be granted, a sentence at a time. */
public final class RequestLimitsTest {
    private static final Check CHECK = new Check("RequestLimitsTest");

    public static void main(String[] args) {
        upToTheFirstSignal();
        signalsThatEndNone();
        upToTheTarget();
        fromTheLastItHolds();
        noneCrossesAnother();
        noPieceTwice();
        besideOneAnother();
        crossesAnotherTrain();
        everyTwoPieces();
        crossesOneAhead();
        crossesItself();
        wholeOrNotAtAll();
        noneWithoutAWay();
        fewerThanSix();
        everyTileTwice();
        CHECK.end();
    }

    private static RailYard line() {
        return Lay.line(new RailYard(8, 3), 1, 7);
    }

    /** A train on (0, 1) that is to go to a station on the last tile. */
    private static RailYard toTheEnd(RailYard yard) {
        yard.station(7, 1, 0, 0);
        yard.train(0, 1, 0, 1, 1);
        yard.order(0, 0);
        return yard;
    }

    private static void granted(String name, RailYard yard, int t, int pieces) {
        yard.tick(1);
        CHECK.due(name + ": motion", yard.motion(t), pieces == 0 ? 0 : 1000 + pieces - 1);
    }

    private static void upToTheFirstSignal() {
        CHECK.about("Terms: up to and with the first one that has a signal for the edge ...");
        for (int x = 1; x <= 6; x++) {
            for (int both = 0; both < 2; both++) {
                RailYard yard = line();
                yard.signal(x, 1, 0, 1, true);
                if (both > 0) {
                    yard.signal(x, 1, 0, 3, true);
                }
                granted("signal on " + x, toTheEnd(yard), 0, x);
                CHECK.due("its last", yard.held(0, x - 1), Lay.code(x, 1, 0, 1));
                CHECK.due("no more", yard.held(0, x), -1);
                CHECK.due("holder of the next", yard.holder(x + 1, 1, 0), -1);
            }
        }
        for (int x = 1; x <= 5; x++) {
            RailYard yard = line();
            yard.signal(x, 1, 0, 1, true);
            yard.signal(x + 1, 1, 0, 1, true);
            granted("signals on " + x + " and the next", toTheEnd(yard), 0, x);
        }
    }

    private static void signalsThatEndNone() {
        CHECK.about("Terms: a signal for the edge towards which it is run through");
        granted("no signal", toTheEnd(line()), 0, 7);
        RailYard against = line();
        against.signal(3, 1, 0, 3, true);
        granted("a signal for the other edge alone", toTheEnd(against), 0, 0);
        RailYard beside = line();
        beside.track(3, 1, 2, true);
        beside.signal(3, 1, 2, 1, true);
        granted("a signal on another piece of the tile", toTheEnd(beside), 0, 7);
        RailYard under = line();
        under.signal(0, 1, 0, 1, true);
        granted("a signal under its head", toTheEnd(under), 0, 7);
        RailYard back = line();
        back.signal(0, 1, 0, 3, true);
        granted("a signal under its head, against it", toTheEnd(back), 0, 7);
    }

    private static void upToTheTarget() {
        CHECK.about("Terms: or that is the target's");
        for (int x = 1; x <= 7; x++) {
            RailYard yard = line();
            yard.train(0, 1, 0, 1, 1);
            yard.station(x, 1, 0, 0);
            if (x < 7) {
                yard.signal(x + 1, 1, 0, 1, true);
            }
            yard.order(0, 0);
            yard.tick(1);
            CHECK.due("station on " + x, yard.motion(0), x == 1 ? 20000 : 1000 + x - 1);
            CHECK.due("its last", yard.held(0, x - 1), Lay.code(x, 1, 0, 1));
            CHECK.due("no more", yard.held(0, x), -1);
        }
        RailYard others = line();
        others.station(2, 1, 0, 0);
        others.station(3, 1, 0, 0);
        others.station(6, 1, 0, 0);
        others.train(0, 1, 0, 1, 1);
        others.order(0, 2);
        granted("other stations on the way", others, 0, 6);
    }

    private static void fromTheLastItHolds() {
        CHECK.about("Terms: from the last piece that it holds");
        RailYard yard = line();
        yard.signal(4, 1, 0, 1, true);
        yard.signal(6, 1, 0, 1, true);
        toTheEnd(yard);
        yard.tick(1);
        CHECK.due("up to the first signal", yard.motion(0), 1003);
        yard.tick(1);
        CHECK.due("two more ahead, and two moved", yard.motion(0), 2003);
        CHECK.due("its last", yard.held(0, 3), Lay.code(6, 1, 0, 1));
        yard.tick(1);
        CHECK.due("one more ahead, and two moved", yard.motion(0), 2002);
        CHECK.due("its last", yard.held(0, 2), Lay.code(7, 1, 0, 1));
    }

    private static void noneCrossesAnother() {
        CHECK.about("Terms: granted when none of these crosses another of them");
        RailYard knot = Lay.knot();
        knot.station(2, 3, 1, 0);
        knot.train(1, 2, 0, 1, 1);
        knot.order(0, 0);
        granted("0 and 1 of a tile", knot, 0, 0);
        CHECK.due("nothing ahead", knot.held(0, 1), -1);
        CHECK.due("nothing held", knot.holder(2, 2, 0), -1);
        RailYard ends = Lay.knot();
        ends.station(2, 3, 1, 0);
        ends.signal(2, 2, 1, 2, true);
        ends.train(1, 2, 0, 1, 1);
        ends.order(0, 0);
        granted("its last crosses its first", ends, 0, 0);
        RailYard before = Lay.knot();
        before.station(2, 3, 1, 0);
        before.signal(2, 1, 5, 2, true);
        before.train(1, 2, 0, 1, 1);
        before.order(0, 0);
        granted("up to the one before that", before, 0, 4);
    }

    /** A stem with a loop at its end, back over the stem and off to a station in the south. */
    private static RailYard balloon() {
        RailYard yard = Lay.build(new RailYard(6, 4), new int[][] {
            {0, 2, 0}, {1, 2, 0}, {2, 2, 0}, {3, 2, 4}, {3, 1, 5}, {4, 1, 3}, {4, 2, 4}, {3, 2, 0},
            {1, 2, 5}, {1, 3, 1}
        });
        yard.station(1, 3, 1, 0);
        yard.train(0, 2, 0, 1, 1);
        yard.order(0, 0);
        return yard;
    }

    private static void noPieceTwice() {
        CHECK.about("Terms: a piece crosses itself");
        RailYard yard = balloon();
        CHECK.due("toGo", yard.toGo(0, 2, 0, 1, 0), 10 + 10 + 7 + 7 + 7 + 7 + 10 + 10 + 7 + 10);
        granted("over the stem there and back", yard, 0, 0);
        RailYard lit = balloon();
        lit.signal(4, 1, 3, 2, true);
        granted("up to a signal in the loop", lit, 0, 5);
        int[] motion = {2002, 1001, 2004};
        for (int due : motion) {
            lit.tick(1);
            CHECK.due("motion in the loop", lit.motion(0), due);
        }
        CHECK.due("back over the stem", lit.held(0, 3), Lay.code(1, 2, 5, 2));
    }

    private static void besideOneAnother() {
        CHECK.about("Terms: two pieces of one tile cross unless they are 2 and 3, or 4 and 5");
        RailYard curl = Lay.curl();
        curl.track(1, 0, 1, true);
        curl.track(0, 1, 0, true);
        curl.station(0, 1, 0, 0);
        curl.train(1, 0, 1, 2, 1);
        curl.order(0, 0);
        granted("2 and 3 of a tile", curl, 0, 6);
        CHECK.due("holder of 2", curl.holder(1, 1, 2), 0);
        CHECK.due("holder of 3", curl.holder(1, 1, 3), 0);
        RailYard other = Lay.otherCurl();
        other.track(3, 1, 0, true);
        other.track(2, 0, 1, true);
        other.station(2, 0, 1, 0);
        other.train(3, 1, 0, 3, 1);
        other.order(0, 0);
        granted("4 and 5 of a tile", other, 0, 6);
        CHECK.due("holder of 4", other.holder(2, 1, 4), 0);
        CHECK.due("holder of 5", other.holder(2, 1, 5), 0);
        RailYard body = Lay.curl();
        body.track(0, 1, 0, true);
        body.station(0, 1, 0, 0);
        body.train(1, 2, 2, 0, 4);
        body.order(0, 0);
        granted("3, and its own body on 2", body, 0, 2);
        CHECK.due("its head", body.held(0, 3), Lay.code(1, 1, 3, 3));
    }

    private static void crossesAnotherTrain() {
        CHECK.about("Terms: or a piece that a train holds");
        for (int x = 1; x <= 7; x++) {
            RailYard yard = toTheEnd(line());
            yard.train(x, 1, 0, 3, 1);
            granted("another on " + x, yard, 0, 0);
            CHECK.due("nothing held", yard.holder(x == 1 ? 2 : 1, 1, 0), -1);
        }
        for (int x = 1; x <= 7; x++) {
            RailYard yard = line();
            yard.track(x, 1, 1, true);
            toTheEnd(yard);
            yard.train(x, 1, 1, 0, 1);
            granted("another across " + x, yard, 0, 0);
        }
        RailYard beyond = line();
        beyond.station(6, 1, 0, 0);
        beyond.train(0, 1, 0, 1, 1);
        beyond.train(7, 1, 0, 3, 1);
        beyond.order(0, 0);
        granted("another just behind the target", beyond, 0, 6);
        RailYard signal = line();
        signal.signal(4, 1, 0, 1, true);
        toTheEnd(signal);
        signal.train(5, 1, 0, 1, 1);
        granted("another just behind the signal", signal, 0, 4);
    }

    /** Of every two bends of a tile: a train runs through the one, another stands on the other. */
    private static void everyTwoPieces() {
        CHECK.about("Terms: cross unless they are 2 and 3, or 4 and 5: granted beside those alone");
        int[][] joins = {{3, 1}, {0, 2}, {0, 1}, {2, 3}, {0, 3}, {1, 2}};
        int[] dx = {0, 1, 0, -1};
        int[] dy = {-1, 0, 1, 0};
        for (int run = 0; run < 6; run++) {
            for (int held = 0; held < 6; held++) {
                RailYard yard = new RailYard(3, 3);
                yard.track(1, 1, run, true);
                yard.track(1, 1, held, true);
                int in = joins[run][0];
                int out = joins[run][1];
                int from = in % 2 == 0 ? 1 : 0;
                int to = out % 2 == 0 ? 1 : 0;
                yard.track(1 + dx[in], 1 + dy[in], from, true);
                yard.track(1 + dx[out], 1 + dy[out], to, true);
                yard.station(1 + dx[out], 1 + dy[out], to, 0);
                yard.train(1, 1, held, joins[held][0], 1);
                yard.train(1 + dx[in], 1 + dy[in], from, (in + 2) % 4, 1);
                yard.order(1, 0);
                boolean apart = run + held == 9 && run != held || run + held == 5 && run / 2 == 1;
                granted("through " + run + " beside " + held, yard, 1, apart ? 2 : 0);
            }
        }
    }

    private static void crossesOneAhead() {
        CHECK.about("Terms: a piece that a train holds: one that it has ahead too");
        RailYard yard = Lay.crossroads(1);
        yard.tick(1);
        CHECK.due("motion of the first", yard.motion(0), 1006);
        CHECK.due("motion of the second", yard.motion(1), 0);
        yard.tick(2);
        CHECK.due("holder of the crossing", yard.holder(5, 3, 0), 0);
        CHECK.due("motion of the second", yard.motion(1), 0);
        CHECK.due("tick(1): the first is over it, so both move", yard.tick(1), 1 + 1);
        CHECK.due("its last", yard.held(0, 0), Lay.code(6, 3, 0, 1));
        CHECK.due("motion of the second", yard.motion(1), 1003);
    }

    /** On a ring of 12 with a station on its first piece. */
    private static void crossesItself() {
        CHECK.about("Terms: a piece that a train holds (itself too)");
        int[][] round = Lay.round(3, 3);
        for (int length = 1; length <= 5; length++) {
            RailYard behind = Lay.ring(new RailYard(4, 4), 3, 3);
            behind.station(1, 0, 0, 0);
            int[] head = round[length];
            behind.train(head[0], head[1], head[2], head[3], length);
            behind.order(0, 0);
            CHECK.due("blocked", behind.blocked(), 0);
            granted("up to the piece behind its last", behind, 0, 12 - length);
            if (length > 1) {
                RailYard under = Lay.ring(new RailYard(4, 4), 3, 3);
                under.station(1, 0, 0, 0);
                head = round[length - 1];
                under.train(head[0], head[1], head[2], head[3], length);
                under.order(0, 0);
                granted("up to its last", under, 0, 0);
                CHECK.due("blocked", under.blocked(), 1);
            }
        }
        RailYard round0 = Lay.ring(new RailYard(4, 4), 3, 3);
        round0.station(1, 0, 0, 0);
        round0.train(1, 0, 0, 1, 1);
        round0.order(0, 0);
        round0.tick(3);
        granted("a way round to the piece under its head", round0, 0, 0);
        CHECK.due("blocked", round0.blocked(), 1);
    }

    private static void wholeOrNotAtAll() {
        CHECK.about("Terms: if that can be granted, these pieces are held too, ahead");
        for (int x = 1; x <= 7; x++) {
            RailYard yard = toTheEnd(line());
            yard.train(x, 1, 0, 1, 1);
            String before = Picture.of(yard);
            yard.tick(1);
            CHECK.same("another on " + x + ": the clock alone goes on",
                Picture.of(yard).replaceFirst("clock=1 ", "clock=0 "), before);
        }
        RailYard free = toTheEnd(line());
        free.tick(1);
        for (int x = 1; x <= 7; x++) {
            CHECK.due("holder on " + x, free.holder(x, 1, 0), 0);
        }
    }

    private static void noneWithoutAWay() {
        CHECK.about("Terms: there is none when there is no way");
        RailYard away = line();
        away.station(7, 1, 0, 0);
        away.train(3, 1, 0, 3, 1);
        away.order(0, 0);
        granted("away from it", away, 0, 0);
        CHECK.due("blocked", away.blocked(), 0);
        RailYard gap = toTheEnd(line());
        gap.track(4, 1, 0, false);
        granted("a gap", gap, 0, 0);
        CHECK.due("blocked", gap.blocked(), 0);
        CHECK.due("track", gap.track(4, 1, 0, true), true);
        granted("no gap", gap, 0, 7);
    }

    /** A ring of 24 with a signal at some distance and another one two pieces on. */
    private static RailYard withSignalAt(int distance) {
        RailYard yard = Lay.ring(new RailYard(8, 6), 7, 5);
        int[][] round = Lay.round(7, 5);
        for (int i = distance; i <= distance + 2; i += 2) {
            yard.signal(round[i][0], round[i][1], round[i][2], round[i][3], true);
        }
        yard.station(3, 5, 0, 0);
        yard.train(1, 0, 0, 1, 1);
        yard.order(0, 0);
        return yard;
    }

    private static void fewerThanSix() {
        CHECK.about("Terms: and has fewer than 6 pieces ahead, it makes its request");
        int[] ahead = {4, 5, 6, 7};
        int[] then = {2004, 2005, 2004, 2005};
        for (int i = 0; i < ahead.length; i++) {
            int distance = ahead[i] + 1;
            RailYard yard = withSignalAt(distance);
            yard.tick(1);
            CHECK.due("motion", yard.motion(0), 1000 + ahead[i]);
            yard.tick(1);
            CHECK.due("motion, two moved", yard.motion(0), then[i]);
            int[] last = Lay.round(7, 5)[ahead[i] < 6 ? distance + 2 : distance];
            CHECK.due("its last", yard.held(0, then[i] - 2000),
                Lay.code(last[0], last[1], last[2], last[3]));
        }
    }

    /** Bends 2 and 3 on a tile for 0, 4 and 5 for 1: a way of 70 pieces over 48 tiles. */
    private static RailYard maze() {
        String[] rows = {"10101010", "00001011", "10011000", "10110001", "00111000", "10101010"};
        RailYard yard = new RailYard(8, 6);
        for (int y = 0; y < 6; y++) {
            for (int x = 0; x < 8; x++) {
                boolean end = x == 7 && y == 5 || x == 0 && y == 2;
                int first = rows[y].charAt(x) == '0' ? 2 : 4;
                yard.track(x, y, end ? y == 5 ? 1 : 0 : first, true);
                if (!end) {
                    yard.track(x, y, first + 1, true);
                }
            }
        }
        yard.station(0, 2, 0, 0);
        yard.train(7, 5, 1, 0, 1);
        yard.order(0, 0);
        return yard;
    }

    private static void everyTileTwice() {
        CHECK.about("Terms: and then those that are reserved AHEAD: more than there are tiles");
        RailYard yard = maze();
        CHECK.due("toGo", yard.toGo(7, 5, 1, 0, 0), 69 * 7 + 10);
        granted("70 pieces", yard, 0, 70);
        CHECK.due("its last", yard.held(0, 69) % 512, Lay.code(0, 2, 0, 0));
        CHECK.due("no more", yard.held(0, 70), -1);
        int held = 0;
        for (int k = 0; k < 70; k++) {
            int code = yard.held(0, k);
            held += yard.holder(code % 8, code / 8 % 8, code / 64 % 8) == 0 ? 1 : 0;
        }
        CHECK.due("all of them are held", held, 70);
        RailYard kept = maze();
        kept.tick(1);
        kept.save();
        CHECK.due("tick(20)", kept.tick(20), 2 + 19 * 3);
        kept.restore();
        CHECK.due("tick(20), restored", kept.tick(20), 2 + 19 * 3);
        CHECK.due("motion", kept.motion(0), 3010);
        CHECK.due("tick(20): it comes there", kept.tick(20), 10);
        CHECK.due("it holds one piece", kept.held(0, 1), -1);
        CHECK.due("the station's", kept.held(0, 0) % 512, Lay.code(0, 2, 0, 0));
    }
}
