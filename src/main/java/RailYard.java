import java.util.Arrays;

/**
 * A railway on a map of tiles: track, one-way signals, stations with cargo, and trains that find
 * the cheapest way to where they are ordered, reserve their track ahead from one safe place to the
 * next, whole or not at all, and never touch what another one holds.
 *
 * Three numbers name a spot, each one a part of the next, so that held() can answer a run as it is:
 * a tile is x + 8 y, a place is tile + 64 piece, a run is place + 512 edge (a piece that is run
 * through towards an edge). An exit is tile + 64 edge: the border that a run leads to.
 */
public final class RailYard {
    public static final int NONE = -1;
    public static final int FULL = -2;

    private static final int LEAST_SIDE = 3;
    private static final int MOST_WIDTH = 8;
    private static final int MOST_HEIGHT = 6;
    private static final int PIECES = 6;
    private static final int EDGES = 4;
    private static final int TILES = 64;
    private static final int PLACES = TILES * PIECES;
    private static final int EXITS = TILES * EDGES;
    private static final int EDGE_STEP = 512;

    private static final int MOST_TRAINS = 6;
    private static final int MOST_STATIONS = 6;
    private static final int MOST_ORDERS = 6;
    private static final int MOST_LENGTH = 5;
    private static final int MOST_RATE = 50;
    private static final int MOST_WAITING = 500;
    private static final int MOST_TICKS = 20;
    private static final int MOST_SPEED = 3;
    private static final int ENOUGH_AHEAD = 6;
    private static final int LOADING_TICKS = 2;
    private static final int ROOM_A_PIECE = 20;

    /** Pieces that do not cross: two a tile at the most. */
    private static final int MOST_HELD = 2 * MOST_WIDTH * MOST_HEIGHT;
    /** What is to go falls with each run of a way, so a way passes no exit twice. */
    private static final int LONGEST_WAY = EXITS + 1;
    /** Far above the sum of every way, far below what could wrap around. */
    private static final int FAR = 1 << 20;

    private final Yard now;
    private final Yard kept;
    private final Ways ways = new Ways();
    private final Stretch wish = new Stretch();
    private final int[] waitsFor = new int[MOST_TRAINS];

    public RailYard(int width, int height) {
        int w = Math.max(LEAST_SIDE, Math.min(width, MOST_WIDTH));
        int h = Math.max(LEAST_SIDE, Math.min(height, MOST_HEIGHT));
        now = new Yard(w, h);
        kept = new Yard(w, h);
    }

    public boolean track(int x, int y, int piece, boolean build) {
        if (!now.grid.hasTile(x, y) || piece < 0 || piece >= PIECES) {
            return false;
        }
        int tile = Spot.tile(x, y);
        int place = Spot.place(tile, piece);
        if (now.grid.isHeld(tile) || now.grid.hasPiece(tile, piece) == build) {
            return false;
        }
        if (!build && now.stationOn(place) != NONE) {
            return false;
        }
        now.grid.tracks[tile] ^= 1 << piece;
        now.grid.lights[place] = 0;
        ways.forget();
        return true;
    }

    public boolean signal(int x, int y, int piece, int edge, boolean put) {
        if (!now.grid.hasTrack(x, y, piece) || !Spot.hasEdge(piece, edge)) {
            return false;
        }
        int tile = Spot.tile(x, y);
        int place = Spot.place(tile, piece);
        if (now.grid.isHeld(tile) || now.stationOn(place) != NONE) {
            return false;
        }
        if (now.grid.isLit(Spot.run(place, edge)) == put) {
            return false;
        }
        now.grid.lights[place] ^= 1 << edge;
        ways.forget();
        return true;
    }

    public int station(int x, int y, int piece, int rate) {
        if (rate < 0 || rate > MOST_RATE || piece > 1 || !now.grid.hasTrack(x, y, piece)) {
            return NONE;
        }
        int tile = Spot.tile(x, y);
        int place = Spot.place(tile, piece);
        if (now.grid.lights[place] != 0 || now.grid.isHeld(tile) || now.hasStation(tile)) {
            return NONE;
        }
        if (now.stationCount >= MOST_STATIONS) {
            return FULL;
        }
        int s = now.stationCount;
        now.stations[s].open(place, rate);
        now.stationCount++;
        return s;
    }

    public int train(int x, int y, int piece, int edge, int length) {
        if (!now.grid.hasTrack(x, y, piece) || !Spot.hasEdge(piece, edge)) {
            return NONE;
        }
        if (length < 1 || length > MOST_LENGTH) {
            return NONE;
        }
        int t = now.trainCount;
        wish.layBody(now.grid, Spot.run(Spot.place(Spot.tile(x, y), piece), edge), length);
        if (wish.count < length || wish.against(now.grid, t) != 0) {
            return NONE;
        }
        if (t >= MOST_TRAINS) {
            return FULL;
        }
        now.trains[t].stand(wish);
        wish.hold(now.grid, t);
        now.trainCount++;
        return t;
    }

    public boolean order(int t, int s) {
        if (!now.hasTrain(t) || !now.isStation(s) || now.trains[t].orderCount >= MOST_ORDERS) {
            return false;
        }
        Train train = now.trains[t];
        train.orders[train.orderCount] = s;
        train.orderCount++;
        return true;
    }

    public boolean reverse(int t) {
        if (!now.hasTrain(t)) {
            return false;
        }
        Train train = now.trains[t];
        if (train.speed != 0 || train.loading > 0 || train.ahead() > 0) {
            return false;
        }
        for (int k = 0; k < train.count; k++) {
            if (now.grid.lights[Spot.placeOf(train.runs[k])] != 0) {
                return false;
            }
        }
        train.turnAbout();
        return true;
    }

    public int tick(int n) {
        if (n < 0 || n > MOST_TICKS) {
            return NONE;
        }
        int moved = 0;
        for (int i = 0; i < n; i++) {
            growCargo();
            for (int t = 0; t < now.trainCount; t++) {
                moved += advance(t);
            }
            now.time++;
        }
        return moved;
    }

    public int pieces(int x, int y) {
        return now.grid.hasTile(x, y) ? now.grid.tracks[Spot.tile(x, y)] : NONE;
    }

    public int signals(int x, int y, int piece) {
        if (!now.grid.hasTrack(x, y, piece)) {
            return NONE;
        }
        int lit = now.grid.lights[Spot.place(Spot.tile(x, y), piece)];
        int first = (lit >> Spot.FIRST_EDGE[piece]) & 1;
        int second = (lit >> Spot.SECOND_EDGE[piece]) & 1;
        return first + 2 * second;
    }

    public int holder(int x, int y, int piece) {
        if (!now.grid.hasTrack(x, y, piece)) {
            return NONE;
        }
        return now.grid.holders[Spot.place(Spot.tile(x, y), piece)];
    }

    public int toGo(int x, int y, int piece, int edge, int s) {
        if (!now.grid.hasTrack(x, y, piece) || !Spot.hasEdge(piece, edge) || !now.isStation(s)) {
            return NONE;
        }
        int goal = now.stations[s].place;
        ways.learn(now.grid, s, goal);
        int rest = ways.rest(Spot.run(Spot.place(Spot.tile(x, y), piece), edge), s, goal);
        return rest < FAR ? rest : NONE;
    }

    public int held(int t, int k) {
        if (!now.hasTrain(t) || k < 0 || k >= now.trains[t].count) {
            return NONE;
        }
        return now.trains[t].runs[k];
    }

    public int motion(int t) {
        if (!now.hasTrain(t)) {
            return NONE;
        }
        Train train = now.trains[t];
        return train.ahead() + 1000 * train.speed + 10000 * train.loading;
    }

    public int load(int t) {
        return now.hasTrain(t) ? now.trains[t].cargo : NONE;
    }

    public int target(int t) {
        return now.hasTrain(t) ? now.trains[t].goesFor() : NONE;
    }

    public int waiting(int s) {
        return now.isStation(s) ? now.stations[s].cargo : NONE;
    }

    public int produced() {
        return now.madeCargo;
    }

    public int delivered() {
        return now.broughtCargo;
    }

    public int blocked() {
        int stuck = 0;
        for (int t = 0; t < now.trainCount; t++) {
            waitsFor[t] = standsWaiting(now.trains[t]) ? makeRequest(t) : 0;
            if (waitsFor[t] != 0) {
                stuck |= 1 << t;
            }
        }
        // Each round but the last takes one out at least, so as many rounds as trains are enough.
        for (int round = 0; round < now.trainCount; round++) {
            for (int t = 0; t < now.trainCount; t++) {
                if ((waitsFor[t] & stuck) == 0) {
                    stuck &= ~(1 << t);
                }
            }
        }
        return stuck;
    }

    public int clock() {
        return now.time;
    }

    public void save() {
        kept.copyFrom(now);
    }

    public void restore() {
        now.copyFrom(kept);
        ways.forget();
    }

    private void growCargo() {
        for (int s = 0; s < now.stationCount; s++) {
            now.madeCargo += now.stations[s].grow();
        }
    }

    /** What one tick does to one train; answers by how many pieces it moved. */
    private int advance(int t) {
        Train train = now.trains[t];
        if (train.orderCount == 0) {
            return 0;
        }
        if (train.loading > 0) {
            goOnLoading(train);
            return 0;
        }
        if (!isDue(train) && train.ahead() < ENOUGH_AHEAD && makeRequest(t) == 0) {
            wish.hold(now.grid, t);
            train.reserve(wish);
        }
        train.speed = train.nextSpeed();
        for (int i = 0; i < train.speed; i++) {
            now.grid.holders[Spot.placeOf(train.runs[0])] = NONE;
            train.moveOn();
        }
        int moved = train.speed;
        if (isDue(train) && train.ahead() == 0) {
            train.speed = 0;
            train.loading = LOADING_TICKS;
        }
        return moved;
    }

    private void goOnLoading(Train train) {
        train.loading--;
        if (train.loading > 0) {
            return;
        }
        now.broughtCargo += train.cargo;
        train.cargo = now.stations[train.goesFor()].take(ROOM_A_PIECE * train.length);
        train.hasLoaded = true;
        train.takeNextOrder();
    }

    /** Asked only of a train with orders. */
    private boolean isDue(Train train) {
        if (Spot.placeOf(train.last()) != now.stations[train.goesFor()].place) {
            return false;
        }
        return train.ahead() > 0 || !train.hasLoaded;
    }

    private boolean standsWaiting(Train train) {
        return train.orderCount > 0 && train.loading == 0 && train.speed == 0
            && train.ahead() == 0 && !isDue(train);
    }

    /**
     * Lays the request of a train with orders out as the wish, empty if there is no way. Answers
     * the trains that stand against it: the sum of 1 << train, 0 when it can be granted.
     */
    private int makeRequest(int t) {
        Train train = now.trains[t];
        int s = train.goesFor();
        int goal = now.stations[s].place;
        ways.learn(now.grid, s, goal);
        wish.count = 0;
        int run = train.last();
        for (int i = 0; i < LONGEST_WAY; i++) {
            run = ways.next(now.grid, run, s, goal);
            if (run == NONE) {
                break;
            }
            wish.add(run);
            if (Spot.placeOf(run) == goal || now.grid.isLit(run)) {
                break;
            }
        }
        return wish.against(now.grid, t);
    }

    /** How tiles, pieces and edges lie to one another, without regard to what is built. */
    private static final class Spot {
        private static final int[] FIRST_EDGE = {3, 0, 0, 2, 0, 1};
        private static final int[] SECOND_EDGE = {1, 2, 1, 3, 3, 2};
        /** For each piece those of its tile that cross it: the sum of 1 << piece. */
        private static final int[] CROSSING = {63, 63, 55, 59, 31, 47};

        static int tile(int x, int y) {
            return x + 8 * y;
        }

        static int place(int tile, int piece) {
            return tile + TILES * piece;
        }

        static int run(int place, int edge) {
            return place + EDGE_STEP * edge;
        }

        static int exit(int tile, int edge) {
            return tile + TILES * edge;
        }

        static int tileOf(int run) {
            return run & (TILES - 1);
        }

        static int pieceOf(int run) {
            return (run & (EDGE_STEP - 1)) / TILES;
        }

        static int placeOf(int run) {
            return run & (EDGE_STEP - 1);
        }

        static int edgeOf(int run) {
            return run / EDGE_STEP;
        }

        static boolean hasEdge(int piece, int edge) {
            return FIRST_EDGE[piece] == edge || SECOND_EDGE[piece] == edge;
        }

        static int otherEdge(int piece, int edge) {
            return FIRST_EDGE[piece] + SECOND_EDGE[piece] - edge;
        }

        /** The edge by which a run is come in. */
        static int entryOf(int run) {
            return otherEdge(pieceOf(run), edgeOf(run));
        }

        static int opposite(int edge) {
            return edge ^ 2;
        }
    }

    /** The map: track, signals, and which train holds what. */
    private static final class Grid {
        private final int width;
        private final int height;
        /** The pieces of each tile: the sum of 1 << piece. */
        private final int[] tracks = new int[TILES];
        /** The signals of each place: the sum of 1 << edge. */
        private final int[] lights = new int[PLACES];
        private final int[] holders = new int[PLACES];

        Grid(int width, int height) {
            this.width = width;
            this.height = height;
            Arrays.fill(holders, NONE);
        }

        void copyFrom(Grid other) {
            System.arraycopy(other.tracks, 0, tracks, 0, TILES);
            System.arraycopy(other.lights, 0, lights, 0, PLACES);
            System.arraycopy(other.holders, 0, holders, 0, PLACES);
        }

        boolean hasTile(int x, int y) {
            return x >= 0 && x < width && y >= 0 && y < height;
        }

        boolean hasTrack(int x, int y, int piece) {
            return hasTile(x, y) && piece >= 0 && piece < PIECES
                && hasPiece(Spot.tile(x, y), piece);
        }

        boolean hasPiece(int tile, int piece) {
            return ((tracks[tile] >> piece) & 1) != 0;
        }

        /** Whether a piece is there and has an edge. */
        boolean meets(int tile, int piece, int edge) {
            return hasPiece(tile, piece) && Spot.hasEdge(piece, edge);
        }

        /** The neighbour tile across an edge; NONE beyond the map. */
        int across(int tile, int edge) {
            int x = tile % 8;
            int y = tile / 8;
            switch (edge) {
                case 0: y--; break;
                case 1: x++; break;
                case 2: y++; break;
                default: x--; break;
            }
            return hasTile(x, y) ? Spot.tile(x, y) : NONE;
        }

        boolean isHeld(int tile) {
            for (int piece = 0; piece < PIECES; piece++) {
                if (holders[Spot.place(tile, piece)] != NONE) {
                    return true;
                }
            }
            return false;
        }

        /** Whether a signal stands for the edge towards which is run. */
        boolean isLit(int run) {
            return ((lights[Spot.placeOf(run)] >> Spot.edgeOf(run)) & 1) != 0;
        }

        /** What a run costs; FAR when a signal for the other edge alone forbids it. */
        int cost(int run) {
            int plain = Spot.pieceOf(run) < 2 ? 10 : 7;
            int lit = lights[Spot.placeOf(run)];
            if (lit == 0) {
                return plain;
            }
            return ((lit >> Spot.edgeOf(run)) & 1) != 0 ? plain + 5 : FAR;
        }
    }

    private static final class Station {
        private int place;
        private int rate;
        private int cargo;

        void open(int where, int cargoATick) {
            place = where;
            rate = cargoATick;
            cargo = 0;
        }

        void copyFrom(Station other) {
            place = other.place;
            rate = other.rate;
            cargo = other.cargo;
        }

        /** Answers how much came. */
        int grow() {
            int more = Math.min(rate, MOST_WAITING - cargo);
            cargo += more;
            return more;
        }

        /** Answers how much was taken. */
        int take(int room) {
            int taken = Math.min(cargo, room);
            cargo -= taken;
            return taken;
        }
    }

    private static final class Train {
        /** Its body from the last to the head, then those ahead. */
        private final int[] runs = new int[MOST_HELD];
        private int count;
        private int length;
        private int speed;
        private int loading;
        private int cargo;
        private final int[] orders = new int[MOST_ORDERS];
        private int orderCount;
        private int turn;
        /** Since it moved or was turned last. */
        private boolean hasLoaded;

        /** A new train on a body that is laid from the head back. */
        void stand(Stretch body) {
            length = body.count;
            count = length;
            for (int k = 0; k < length; k++) {
                runs[k] = body.runs[length - 1 - k];
            }
            speed = 0;
            loading = 0;
            cargo = 0;
            orderCount = 0;
            turn = 0;
            hasLoaded = false;
        }

        void copyFrom(Train other) {
            System.arraycopy(other.runs, 0, runs, 0, MOST_HELD);
            count = other.count;
            length = other.length;
            speed = other.speed;
            loading = other.loading;
            cargo = other.cargo;
            System.arraycopy(other.orders, 0, orders, 0, MOST_ORDERS);
            orderCount = other.orderCount;
            turn = other.turn;
            hasLoaded = other.hasLoaded;
        }

        int ahead() {
            return count - length;
        }

        int last() {
            return runs[count - 1];
        }

        int goesFor() {
            return orderCount > 0 ? orders[turn] : NONE;
        }

        void takeNextOrder() {
            turn = turn + 1 < orderCount ? turn + 1 : 0;
        }

        void reserve(Stretch more) {
            for (int i = 0; i < more.count && count < MOST_HELD; i++) {
                runs[count] = more.runs[i];
                count++;
            }
        }

        /** The greatest from which it can still come to a stand on what it has ahead. */
        int nextSpeed() {
            int v = Math.min(speed + 1, MOST_SPEED);
            while (v > 0 && v * (v + 1) / 2 > ahead()) {
                v--;
            }
            return v;
        }

        void moveOn() {
            count--;
            System.arraycopy(runs, 1, runs, 0, count);
            hasLoaded = false;
        }

        void turnAbout() {
            for (int k = 0; k < count; k++) {
                runs[k] = Spot.run(Spot.placeOf(runs[k]), Spot.entryOf(runs[k]));
            }
            for (int k = 0; k < count / 2; k++) {
                int run = runs[k];
                runs[k] = runs[count - 1 - k];
                runs[count - 1 - k] = run;
            }
            hasLoaded = false;
        }
    }

    /** All that is saved and restored. */
    private static final class Yard {
        private final Grid grid;
        private final Station[] stations = new Station[MOST_STATIONS];
        private final Train[] trains = new Train[MOST_TRAINS];
        private int stationCount;
        private int trainCount;
        private int madeCargo;
        private int broughtCargo;
        private int time;

        Yard(int width, int height) {
            grid = new Grid(width, height);
            for (int s = 0; s < MOST_STATIONS; s++) {
                stations[s] = new Station();
            }
            for (int t = 0; t < MOST_TRAINS; t++) {
                trains[t] = new Train();
            }
        }

        void copyFrom(Yard other) {
            grid.copyFrom(other.grid);
            for (int s = 0; s < other.stationCount; s++) {
                stations[s].copyFrom(other.stations[s]);
            }
            for (int t = 0; t < other.trainCount; t++) {
                trains[t].copyFrom(other.trains[t]);
            }
            stationCount = other.stationCount;
            trainCount = other.trainCount;
            madeCargo = other.madeCargo;
            broughtCargo = other.broughtCargo;
            time = other.time;
        }

        boolean isStation(int s) {
            return s >= 0 && s < stationCount;
        }

        boolean hasTrain(int t) {
            return t >= 0 && t < trainCount;
        }

        /** The station on a place, or NONE. */
        int stationOn(int place) {
            for (int s = 0; s < stationCount; s++) {
                if (stations[s].place == place) {
                    return s;
                }
            }
            return NONE;
        }

        boolean hasStation(int tile) {
            return stationOn(Spot.place(tile, 0)) != NONE || stationOn(Spot.place(tile, 1)) != NONE;
        }
    }

    /** A row of runs that a train would hold. */
    private static final class Stretch {
        private final int[] runs = new int[LONGEST_WAY];
        private final int[] covered = new int[TILES];
        private int count;

        void add(int run) {
            if (count < LONGEST_WAY) {
                runs[count] = run;
                count++;
            }
        }

        /** Lays a body from its head back; it stays shorter where a piece is wanting. */
        void layBody(Grid grid, int head, int length) {
            count = 0;
            int run = head;
            for (int i = 0; i < length && run != NONE; i++) {
                add(run);
                run = firstBefore(grid, run);
            }
        }

        /** Of those that lead to a run the one with the least number, or NONE. */
        private static int firstBefore(Grid grid, int run) {
            int entry = Spot.entryOf(run);
            int tile = grid.across(Spot.tileOf(run), entry);
            int edge = Spot.opposite(entry);
            for (int piece = 0; piece < PIECES && tile != NONE; piece++) {
                if (grid.meets(tile, piece, edge)) {
                    return Spot.run(Spot.place(tile, piece), edge);
                }
            }
            return NONE;
        }

        /**
         * The trains that hold a piece which crosses one of these, and t itself when two of these
         * cross: the sum of 1 << train.
         */
        int against(Grid grid, int t) {
            int found = 0;
            Arrays.fill(covered, 0);
            for (int i = 0; i < count; i++) {
                int tile = Spot.tileOf(runs[i]);
                int piece = Spot.pieceOf(runs[i]);
                if ((covered[tile] & Spot.CROSSING[piece]) != 0) {
                    found |= 1 << t;
                }
                covered[tile] |= 1 << piece;
                for (int other = 0; other < PIECES; other++) {
                    int holding = grid.holders[Spot.place(tile, other)];
                    if (holding != NONE && ((Spot.CROSSING[piece] >> other) & 1) != 0) {
                        found |= 1 << holding;
                    }
                }
            }
            return found;
        }

        void hold(Grid grid, int t) {
            for (int i = 0; i < count; i++) {
                grid.holders[Spot.placeOf(runs[i])] = t;
            }
        }
    }

    /**
     * What is to go to each station. It hangs on the map alone, so it is kept until that changes;
     * and all runs to one exit have the same before them, so it is kept by exits.
     */
    private static final class Ways {
        private final int[][] least = new int[MOST_STATIONS][EXITS];
        /** The stations of which least is true: the sum of 1 << station. */
        private int known;
        /** A ring of the exits whose pieces are still to be offered their better sum. */
        private final int[] queue = new int[EXITS];
        private final int[] queued = new int[EXITS];
        private int queueStart;
        private int queueCount;

        void forget() {
            known = 0;
        }

        /** What is to go from a run; FAR when no way leads there. */
        int rest(int run, int s, int goal) {
            if (Spot.placeOf(run) == goal) {
                return 0;
            }
            return least[s][Spot.exit(Spot.tileOf(run), Spot.edgeOf(run))];
        }

        /** The run behind another on the way to a station, or NONE. */
        int next(Grid grid, int run, int s, int goal) {
            int tile = grid.across(Spot.tileOf(run), Spot.edgeOf(run));
            int entry = Spot.opposite(Spot.edgeOf(run));
            int best = NONE;
            int bestSum = FAR;
            for (int piece = 0; piece < PIECES && tile != NONE; piece++) {
                if (grid.meets(tile, piece, entry)) {
                    int on = Spot.run(Spot.place(tile, piece), Spot.otherEdge(piece, entry));
                    int sum = grid.cost(on) + rest(on, s, goal);
                    if (sum < bestSum) {
                        best = on;
                        bestSum = sum;
                    }
                }
            }
            return best;
        }

        /** Finds the least sums to a station, from its place outwards. */
        void learn(Grid grid, int s, int goal) {
            if (((known >> s) & 1) != 0) {
                return;
            }
            known |= 1 << s;
            Arrays.fill(least[s], FAR);
            int goalPiece = Spot.pieceOf(goal);
            offer(grid, s, Spot.run(goal, Spot.FIRST_EDGE[goalPiece]), 0);
            offer(grid, s, Spot.run(goal, Spot.SECOND_EDGE[goalPiece]), 0);
            // No exit can be bettered in more passes over the queue than there are exits.
            for (int taken = 0; queueCount > 0 && taken < EXITS * EXITS; taken++) {
                int exit = takeFromQueue();
                int tile = exit % TILES;
                int edge = exit / TILES;
                for (int piece = 0; piece < PIECES; piece++) {
                    if (grid.meets(tile, piece, edge)) {
                        offer(grid, s, Spot.run(Spot.place(tile, piece), edge), least[s][exit]);
                    }
                }
            }
        }

        /** A run with so much to go behind it may better the exit that leads to it. */
        private void offer(Grid grid, int s, int run, int rest) {
            int sum = grid.cost(run) + rest;
            int entry = Spot.entryOf(run);
            int tile = grid.across(Spot.tileOf(run), entry);
            if (tile == NONE) {
                return;
            }
            int exit = Spot.exit(tile, Spot.opposite(entry));
            if (sum < least[s][exit]) {
                least[s][exit] = sum;
                putInQueue(exit);
            }
        }

        private void putInQueue(int exit) {
            if (queued[exit] == 0 && queueCount < EXITS) {
                queued[exit] = 1;
                queue[(queueStart + queueCount) % EXITS] = exit;
                queueCount++;
            }
        }

        private int takeFromQueue() {
            int exit = queue[queueStart];
            queueStart = (queueStart + 1) % EXITS;
            queueCount--;
            queued[exit] = 0;
            return exit;
        }
    }
}
