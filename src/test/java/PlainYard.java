import java.util.ArrayList;
import java.util.HashMap;
import java.util.HashSet;
import java.util.LinkedHashMap;
import java.util.List;
import java.util.Map;
import java.util.Set;

/**
 * The document once more, word by word and without a thought of speed: what RandomRunsTest holds
 * RailYard against. It shares no code and no representation with it.
 */
final class PlainYard {
    record Piece(int x, int y, int number) { }

    record Run(Piece piece, int towards) { }

    static final class Station {
        Piece piece;
        int rate;
        int waiting;
    }

    static final class Train {
        List<Run> body = new ArrayList<>();
        List<Run> ahead = new ArrayList<>();
        List<Integer> orders = new ArrayList<>();
        int current;
        int speed;
        int toLoad;
        int load;
        boolean loadedHere;

        Run last() {
            return ahead.isEmpty() ? body.get(body.size() - 1) : ahead.get(ahead.size() - 1);
        }

        List<Run> all() {
            List<Run> runs = new ArrayList<>(body);
            runs.addAll(ahead);
            return runs;
        }

        Train copy() {
            Train other = new Train();
            other.body.addAll(body);
            other.ahead.addAll(ahead);
            other.orders.addAll(orders);
            other.current = current;
            other.speed = speed;
            other.toLoad = toLoad;
            other.load = load;
            other.loadedHere = loadedHere;
            return other;
        }
    }

    private static final int[][] JOINS = {{3, 1}, {0, 2}, {0, 1}, {2, 3}, {0, 3}, {1, 2}};
    private static final int NOWHERE = 1_000_000;

    final int width;
    final int height;
    Map<Piece, Set<Integer>> built = new LinkedHashMap<>();
    List<Station> stations = new ArrayList<>();
    List<Train> trains = new ArrayList<>();
    int produced;
    int delivered;
    int clock;
    private PlainYard kept;
    /** What allToGo() found since the map was last touched, for else it takes most of the time. */
    private final Map<Piece, Map<Run, Integer>> sums = new HashMap<>();

    PlainYard(int width, int height) {
        this.width = width < 3 ? 3 : width > 8 ? 8 : width;
        this.height = height < 3 ? 3 : height > 6 ? 6 : height;
    }

    // The map

    boolean track(int x, int y, int number, boolean build) {
        sums.clear();
        if (!onMap(x, y) || number < 0 || number > 5 || heldTile(x, y)) {
            return false;
        }
        Piece piece = new Piece(x, y, number);
        if (build) {
            return built.putIfAbsent(piece, new HashSet<>()) == null;
        }
        return stationOn(piece) == null && built.remove(piece) != null;
    }

    boolean signal(int x, int y, int number, int edge, boolean put) {
        sums.clear();
        Piece piece = new Piece(x, y, number);
        if (!built.containsKey(piece) || !edges(piece).contains(edge) || heldTile(x, y)
            || stationOn(piece) != null) {
            return false;
        }
        return put ? built.get(piece).add(edge) : built.get(piece).remove(edge);
    }

    int station(int x, int y, int number, int rate) {
        Piece piece = new Piece(x, y, number);
        if (rate < 0 || rate > 50 || !built.containsKey(piece) || number > 1
            || !built.get(piece).isEmpty() || heldTile(x, y)) {
            return -1;
        }
        for (Station station : stations) {
            if (station.piece.x() == x && station.piece.y() == y) {
                return -1;
            }
        }
        if (stations.size() == 6) {
            return -2;
        }
        Station made = new Station();
        made.piece = piece;
        made.rate = rate;
        stations.add(made);
        return stations.size() - 1;
    }

    int pieces(int x, int y) {
        if (!onMap(x, y)) {
            return -1;
        }
        int sum = 0;
        for (Piece piece : built.keySet()) {
            sum += piece.x() == x && piece.y() == y ? 1 << piece.number() : 0;
        }
        return sum;
    }

    int signals(int x, int y, int number) {
        Set<Integer> put = built.get(new Piece(x, y, number));
        if (put == null) {
            return -1;
        }
        return (put.contains(JOINS[number][0]) ? 1 : 0) + (put.contains(JOINS[number][1]) ? 2 : 0);
    }

    int holder(int x, int y, int number) {
        Piece piece = new Piece(x, y, number);
        for (int t = 0; t < trains.size(); t++) {
            for (Run run : trains.get(t).all()) {
                if (run.piece().equals(piece)) {
                    return t;
                }
            }
        }
        return -1;
    }

    private boolean onMap(int x, int y) {
        return x >= 0 && x < width && y >= 0 && y < height;
    }

    private boolean heldTile(int x, int y) {
        for (int number = 0; number < 6; number++) {
            if (holder(x, y, number) >= 0) {
                return true;
            }
        }
        return false;
    }

    private Station stationOn(Piece piece) {
        for (Station station : stations) {
            if (station.piece.equals(piece)) {
                return station;
            }
        }
        return null;
    }

    private static List<Integer> edges(Piece piece) {
        return List.of(JOINS[piece.number()][0], JOINS[piece.number()][1]);
    }

    private static int other(Piece piece, int edge) {
        return edges(piece).get(0) == edge ? edges(piece).get(1) : edges(piece).get(0);
    }

    private static boolean cross(Piece a, Piece b) {
        if (a.x() != b.x() || a.y() != b.y()) {
            return false;
        }
        Set<Integer> two = Set.copyOf(List.of(a.number(), b.number()));
        return !two.equals(Set.of(2, 3)) && !two.equals(Set.of(4, 5));
    }

    // Ways

    /** Pieces beyond an edge that have the opposite one, by number. */
    private List<Piece> beyond(Piece from, int edge) {
        int x = from.x() + (edge == 1 ? 1 : edge == 3 ? -1 : 0);
        int y = from.y() + (edge == 2 ? 1 : edge == 0 ? -1 : 0);
        List<Piece> found = new ArrayList<>();
        for (int number = 0; number < 6; number++) {
            Piece piece = new Piece(x, y, number);
            if (built.containsKey(piece) && edges(piece).contains((edge + 2) % 4)) {
                found.add(piece);
            }
        }
        return found;
    }

    private List<Run> behind(Run run) {
        List<Run> found = new ArrayList<>();
        for (Piece piece : beyond(run.piece(), run.towards())) {
            Run on = new Run(piece, other(piece, (run.towards() + 2) % 4));
            Set<Integer> put = built.get(piece);
            if (put.size() != 1 || put.contains(on.towards())) {
                found.add(on);
            }
        }
        return found;
    }

    private int cost(Run run) {
        return (run.piece().number() < 2 ? 10 : 7)
            + (built.get(run.piece()).contains(run.towards()) ? 5 : 0);
    }

    private Map<Run, Integer> allToGo(Piece goal) {
        if (sums.containsKey(goal)) {
            return sums.get(goal);
        }
        Map<Run, Integer> least = new HashMap<>();
        for (Piece piece : built.keySet()) {
            for (int edge : edges(piece)) {
                least.put(new Run(piece, edge), piece.equals(goal) ? 0 : NOWHERE);
            }
        }
        boolean better = true;
        while (better) {
            better = false;
            for (Run run : least.keySet()) {
                for (Run on : behind(run)) {
                    int sum = cost(on) + least.get(on);
                    if (sum < least.get(run)) {
                        least.put(run, sum);
                        better = true;
                    }
                }
            }
        }
        sums.put(goal, least);
        return least;
    }

    int toGo(int x, int y, int number, int edge, int s) {
        Piece piece = new Piece(x, y, number);
        if (s < 0 || s >= stations.size() || !built.containsKey(piece)
            || !edges(piece).contains(edge)) {
            return -1;
        }
        int sum = allToGo(stations.get(s).piece).get(new Run(piece, edge));
        return sum >= NOWHERE ? -1 : sum;
    }

    /** The whole way; empty when there is none. */
    private List<Run> way(Run from, Piece goal) {
        Map<Run, Integer> least = allToGo(goal);
        List<Run> runs = new ArrayList<>();
        Run run = from;
        do {
            Run best = null;
            for (Run on : behind(run)) {
                if (least.get(on) < NOWHERE && (best == null
                    || cost(on) + least.get(on) < cost(best) + least.get(best))) {
                    best = on;
                }
            }
            if (best == null) {
                return new ArrayList<>();
            }
            runs.add(best);
            run = best;
        } while (!run.piece().equals(goal));
        return runs;
    }

    // Trains

    int train(int x, int y, int number, int edge, int length) {
        Piece piece = new Piece(x, y, number);
        if (!built.containsKey(piece) || !edges(piece).contains(edge) || length < 1 || length > 5) {
            return -1;
        }
        Train made = new Train();
        made.body.add(new Run(piece, edge));
        while (made.body.size() < length) {
            Run first = made.body.get(0);
            int in = other(first.piece(), first.towards());
            List<Piece> before = beyond(first.piece(), in);
            if (before.isEmpty()) {
                return -1;
            }
            made.body.add(0, new Run(before.get(0), (in + 2) % 4));
        }
        if (!waitedFor(made.body, trains.size()).isEmpty()) {
            return -1;
        }
        if (trains.size() == 6) {
            return -2;
        }
        trains.add(made);
        return trains.size() - 1;
    }

    boolean order(int t, int s) {
        if (t < 0 || t >= trains.size() || s < 0 || s >= stations.size()
            || trains.get(t).orders.size() >= 6) {
            return false;
        }
        return trains.get(t).orders.add(s);
    }

    boolean reverse(int t) {
        if (t < 0 || t >= trains.size()) {
            return false;
        }
        Train train = trains.get(t);
        if (train.speed != 0 || train.toLoad > 0 || !train.ahead.isEmpty()) {
            return false;
        }
        List<Run> turned = new ArrayList<>();
        for (Run run : train.body) {
            if (!built.get(run.piece()).isEmpty()) {
                return false;
            }
            turned.add(0, new Run(run.piece(), other(run.piece(), run.towards())));
        }
        train.body = turned;
        train.loadedHere = false;
        return true;
    }

    private Piece targetPiece(Train train) {
        return stations.get(train.orders.get(train.current)).piece;
    }

    private boolean due(Train train) {
        return train.last().piece().equals(targetPiece(train))
            && !(train.ahead.isEmpty() && train.loadedHere);
    }

    private List<Run> request(Train train) {
        Piece goal = targetPiece(train);
        List<Run> asked = new ArrayList<>();
        for (Run run : way(train.last(), goal)) {
            asked.add(run);
            if (built.get(run.piece()).contains(run.towards())) {
                break;
            }
        }
        return asked;
    }

    /** The trains that hold what crosses one of these runs, and itself when two of them cross. */
    private Set<Integer> waitedFor(List<Run> runs, int itself) {
        Set<Integer> found = new HashSet<>();
        for (int i = 0; i < runs.size(); i++) {
            for (int j = 0; j < i; j++) {
                if (cross(runs.get(i).piece(), runs.get(j).piece())) {
                    found.add(itself);
                }
            }
            for (int t = 0; t < trains.size(); t++) {
                for (Run held : trains.get(t).all()) {
                    if (cross(held.piece(), runs.get(i).piece())) {
                        found.add(t);
                    }
                }
            }
        }
        return found;
    }

    int tick(int n) {
        if (n < 0 || n > 20) {
            return -1;
        }
        int moved = 0;
        for (int i = 0; i < n; i++) {
            for (Station station : stations) {
                int before = station.waiting;
                station.waiting = Math.min(500, before + station.rate);
                produced += station.waiting - before;
            }
            for (int t = 0; t < trains.size(); t++) {
                moved += go(t);
            }
            clock++;
        }
        return moved;
    }

    private int go(int t) {
        Train train = trains.get(t);
        if (train.orders.isEmpty()) {
            return 0;
        }
        if (train.toLoad > 0) {
            train.toLoad--;
            if (train.toLoad == 0) {
                Station station = stations.get(train.orders.get(train.current));
                delivered += train.load;
                train.load = Math.min(station.waiting, 20 * train.body.size());
                station.waiting -= train.load;
                train.current = (train.current + 1) % train.orders.size();
                train.loadedHere = true;
            }
            return 0;
        }
        if (!due(train) && train.ahead.size() < 6) {
            List<Run> asked = request(train);
            if (waitedFor(asked, t).isEmpty()) {
                train.ahead.addAll(asked);
            }
        }
        int speed = 0;
        for (int v = 1; v <= 3; v++) {
            if (v <= train.speed + 1 && v * (v + 1) / 2 <= train.ahead.size()) {
                speed = v;
            }
        }
        train.speed = speed;
        for (int i = 0; i < speed; i++) {
            train.body.add(train.ahead.remove(0));
            train.body.remove(0);
            train.loadedHere = false;
        }
        if (due(train) && train.ahead.isEmpty()) {
            train.speed = 0;
            train.toLoad = 2;
        }
        return speed;
    }

    int held(int t, int k) {
        if (t < 0 || t >= trains.size() || k < 0 || k >= trains.get(t).all().size()) {
            return -1;
        }
        Run run = trains.get(t).all().get(k);
        Piece piece = run.piece();
        return piece.x() + 8 * piece.y() + 64 * piece.number() + 512 * run.towards();
    }

    int motion(int t) {
        if (t < 0 || t >= trains.size()) {
            return -1;
        }
        Train train = trains.get(t);
        return train.ahead.size() + 1000 * train.speed + 10000 * train.toLoad;
    }

    int load(int t) {
        return t < 0 || t >= trains.size() ? -1 : trains.get(t).load;
    }

    int target(int t) {
        if (t < 0 || t >= trains.size() || trains.get(t).orders.isEmpty()) {
            return -1;
        }
        return trains.get(t).orders.get(trains.get(t).current);
    }

    int waiting(int s) {
        return s < 0 || s >= stations.size() ? -1 : stations.get(s).waiting;
    }

    /** Tries every set of trains: the greatest of which each waits for one of the set. */
    int blocked() {
        int best = 0;
        for (int set = 0; set < 1 << trains.size(); set++) {
            if (Integer.bitCount(set) > Integer.bitCount(best) && eachWaitsWithin(set)) {
                best = set;
            }
        }
        return best;
    }

    private boolean eachWaitsWithin(int set) {
        for (int t = 0; t < trains.size(); t++) {
            if ((set >> t & 1) == 0) {
                continue;
            }
            Train train = trains.get(t);
            if (train.orders.isEmpty() || train.toLoad > 0 || due(train) || train.speed != 0
                || !train.ahead.isEmpty()) {
                return false;
            }
            boolean within = false;
            for (int other : waitedFor(request(train), t)) {
                within |= (set >> other & 1) != 0;
            }
            if (!within) {
                return false;
            }
        }
        return true;
    }

    // Keeping

    void save() {
        kept = new PlainYard(width, height);
        kept.take(this);
    }

    void restore() {
        take(kept == null ? new PlainYard(width, height) : kept);
    }

    private void take(PlainYard other) {
        sums.clear();
        built = new LinkedHashMap<>();
        for (Map.Entry<Piece, Set<Integer>> entry : other.built.entrySet()) {
            built.put(entry.getKey(), new HashSet<>(entry.getValue()));
        }
        stations = new ArrayList<>();
        for (Station station : other.stations) {
            Station copy = new Station();
            copy.piece = station.piece;
            copy.rate = station.rate;
            copy.waiting = station.waiting;
            stations.add(copy);
        }
        trains = new ArrayList<>();
        for (Train train : other.trains) {
            trains.add(train.copy());
        }
        produced = other.produced;
        delivered = other.delivered;
        clock = other.clock;
    }
}
