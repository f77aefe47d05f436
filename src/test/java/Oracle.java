import java.util.ArrayDeque;
import java.util.ArrayList;
import java.util.Arrays;
import java.util.Collections;
import java.util.Comparator;
import java.util.Deque;
import java.util.List;
import java.util.function.Function;
import java.util.function.IntPredicate;

/**
 * The document once more, as plainly as it goes: things that never change, all that is searched for
 * looked at one by one. The tests hold FireSale's answers against this one's.
 */
final class Oracle {
    /** A CAP (kind 0) or SHOCK (1) that lies on a SHELF. */
    record Item(int kind, int asset, int v) {
    }

    record House(int cash, int debt, int floor, int step, int way, List<Integer> pieces) {
        House with(int what, int v) {
            return new House(what == 0 ? v : cash, what == 1 ? v : debt, what == 2 ? v : floor,
                    what == 3 ? v : step, what == 4 ? v : way, pieces);
        }

        int fact(int what) {
            return new int[] {cash, debt, floor, step, way}[what];
        }

        int piece(int asset) {
            return asset < pieces.size() ? pieces.get(asset) : 0;
        }

        House holding(int asset, int n) {
            List<Integer> all = new ArrayList<>();
            for (int i = 0; i < 4; i++) {
                all.add(i == asset ? n : piece(i));
            }
            return new House(cash, debt, floor, step, way, all);
        }

        int allPieces() {
            return pieces.stream().mapToInt(Integer::intValue).sum();
        }
    }

    record State(List<Integer> sold, List<Boolean> fallen) {
        int bits() {
            int sum = 0;
            for (int i = 0; i < fallen.size(); i++) {
                sum += fallen.get(i) ? 1 << i : 0;
            }
            return sum;
        }

        int allSold() {
            return sold.stream().mapToInt(Integer::intValue).sum();
        }
    }

    /** All things, and what they WERE if. */
    static final class World {
        List<int[]> assets = new ArrayList<>();
        List<House> houses = new ArrayList<>();
        int[][] loans = new int[6][6];
        List<List<Item>> shelves =
                List.of(new ArrayList<>(), new ArrayList<>(), new ArrayList<>());
        int buyerOf = -1;
        int bought = 0;
        int with = -1;

        World copy() {
            World other = new World();
            for (int[] a : assets) {
                other.assets.add(a.clone());
            }
            other.houses.addAll(houses);
            for (int i = 0; i < 6; i++) {
                other.loans[i] = loans[i].clone();
            }
            for (int i = 0; i < 3; i++) {
                other.shelves.get(i).addAll(shelves.get(i));
            }
            return other;
        }

        World richer(int house, int coins) {
            World other = copy();
            House was = other.houses.get(house);
            other.houses.set(house, was.with(0, was.cash() + coins));
            return other;
        }

        int held(int asset) {
            return houses.stream().mapToInt(h -> h.piece(asset)).sum();
        }

        int cap(int asset) {
            return shelves.stream().flatMap(List::stream)
                    .filter(i -> i.kind() == 0 && i.asset() == asset).mapToInt(Item::v).min()
                    .orElse(360);
        }

        int shocks(int asset) {
            return shelves.stream().flatMap(List::stream)
                    .filter(i -> i.kind() == 1 && i.asset() == asset).mapToInt(Item::v).sum();
        }

        int price(State s, int asset) {
            int sold = s.sold().get(asset) - (asset == buyerOf ? bought : 0);
            int fall = assets.get(asset)[1] * (sold < 0 ? 0 : sold);
            int price = assets.get(asset)[0] - shocks(asset) - fall;
            return price < 0 ? 0 : price;
        }

        int worth(State s, int house) {
            House h = houses.get(house);
            int sum = h.cash() - h.debt();
            for (int a = 0; a < assets.size(); a++) {
                sum += h.piece(a) * price(s, a);
            }
            for (int i = 0; i < houses.size(); i++) {
                sum += s.fallen().get(i) ? 0 : loans[i][house];
                sum -= loans[house][i];
            }
            return sum;
        }

        int[] mustSell(State s, int house) {
            House h = houses.get(house);
            int worth = worth(s, house);
            int due = 0;
            if (worth < 0) {
                due = h.allPieces();
            } else {
                while (due < h.allPieces() && worth + due * h.step() < h.floor()) {
                    due++;
                }
            }
            int[] parts = new int[assets.size()];
            for (int sold = 0; sold < due; sold++) {
                int a = h.way() == 0 ? 0 : assets.size() - 1;
                while (parts[a] == h.piece(a)) {
                    a += h.way() == 0 ? 1 : -1;
                }
                parts[a]++;
            }
            return parts;
        }

        State next(State s) {
            List<Integer> sold = new ArrayList<>();
            for (int a = 0; a < assets.size(); a++) {
                int sum = 0;
                for (int h = 0; h < houses.size(); h++) {
                    sum += mustSell(s, h)[a];
                }
                sold.add(Math.min(sum, cap(a)));
            }
            List<Boolean> fallen = new ArrayList<>();
            for (int h = 0; h < houses.size(); h++) {
                fallen.add(worth(s, h) < 0 || h == with);
            }
            return new State(sold, fallen);
        }

        State calm() {
            List<Boolean> fallen = new ArrayList<>();
            for (int h = 0; h < houses.size(); h++) {
                fallen.add(h == with);
            }
            return new State(Collections.nCopies(assets.size(), 0), fallen);
        }

        State panic() {
            List<Integer> sold = new ArrayList<>();
            for (int a = 0; a < assets.size(); a++) {
                sold.add(Math.min(held(a), cap(a)));
            }
            return new State(sold, Collections.nCopies(houses.size(), true));
        }

        /** All STATES from the one told to the STEADY one. */
        List<State> path(State from) {
            List<State> path = new ArrayList<>();
            path.add(from);
            State s = next(from);
            while (!s.equals(path.get(path.size() - 1))) {
                path.add(s);
                s = next(s);
            }
            return path;
        }

        List<State> rise() {
            return path(calm());
        }

        State least() {
            List<State> path = rise();
            return path.get(path.size() - 1);
        }

        State greatest() {
            List<State> path = path(panic());
            return path.get(path.size() - 1);
        }

        int lost(State s) {
            int sum = 0;
            for (int a = 0; a < assets.size(); a++) {
                sum += held(a) * (price(calm(), a) - price(s, a));
            }
            return sum;
        }

        boolean stands() {
            return least().bits() == 0;
        }

        int tell(State s, int what) {
            if (what < 4) {
                return s.sold().get(what);
            }
            return new int[] {s.bits(), lost(s), Integer.bitCount(s.bits()), s.allSold()}[what - 4];
        }

        float ratio(State s, int asset) {
            int calm = price(calm(), asset);
            return calm == 0 ? 1f : (float) price(s, asset) / (float) calm;
        }

        float index(State s) {
            float sum = 0f;
            int all = 0;
            for (int a = 0; a < assets.size(); a++) {
                sum += ratio(s, a) * (float) held(a);
                all += held(a);
            }
            return all == 0 ? 1f : sum / (float) all;
        }

        boolean isHouse(int house) {
            return 0 <= house && house < houses.size();
        }

        boolean isAsset(int asset) {
            return 0 <= asset && asset < assets.size();
        }

        boolean isAsked(int what) {
            return what >= 4 && what <= 7 || what < 4 && isAsset(what);
        }

        void remove(int house) {
            houses.remove(house);
            int[][] was = loans;
            loans = new int[6][6];
            for (int i = 0; i < 6; i++) {
                for (int j = 0; j < 6; j++) {
                    if (i != house && j != house) {
                        loans[i > house ? i - 1 : i][j > house ? j - 1 : j] = was[i][j];
                    }
                }
            }
        }
    }

    World w = new World();
    private final Deque<World> acts = new ArrayDeque<>();
    private final StringBuilder tape = new StringBuilder();

    private void act() {
        acts.push(w);
        if (acts.size() > 12) {
            acts.removeLast();
        }
        w = w.copy();
    }

    private static boolean in(int v, int least, int most) {
        return least <= v && v <= most;
    }

    int feed(int a, int b, int c, int d, int e) {
        if (tape.length() > 780) {
            return -1;
        }
        for (int four : new int[] {a, b, c, d, e}) {
            tape.append((char) (four >>> 24)).append((char) (four >>> 16 & 255));
            tape.append((char) (four >>> 8 & 255)).append((char) (four & 255));
        }
        return tape.length();
    }

    int back(int n) {
        if (!in(n, 0, tape.length())) {
            return -1;
        }
        tape.setLength(tape.length() - n);
        return tape.length();
    }

    int text() {
        OracleText text = new OracleText(tape.toString());
        tape.setLength(0);
        int fault = text.fault();
        if (fault >= 0) {
            return -4 - fault;
        }
        w = text.world;
        acts.clear();
        return w.houses.size();
    }

    int asset(int base, int slope) {
        if (w.assets.size() == 4 || !in(base, 1, 200) || !in(slope, 0, 9)) {
            return -1;
        }
        act();
        w.assets.add(new int[] {base, slope});
        return w.assets.size() - 1;
    }

    int house(int cash, int debt) {
        if (w.houses.size() == 6 || !in(cash, 0, 9999) || !in(debt, 0, 9999)) {
            return -1;
        }
        act();
        w.houses.add(new House(cash, debt, 0, 1, 0, List.of(0, 0, 0, 0)));
        return w.houses.size() - 1;
    }

    static boolean fits(int what, int v) {
        return what == 3 ? in(v, 1, 99) : what == 4 ? in(v, 0, 1) : in(v, 0, 9999);
    }

    int set(int house, int what, int v) {
        if (!w.isHouse(house) || !in(what, 0, 4) || !fits(what, v)
                || w.houses.get(house).fact(what) == v) {
            return -1;
        }
        act();
        int was = w.houses.get(house).fact(what);
        w.houses.set(house, w.houses.get(house).with(what, v));
        return was;
    }

    int hold(int house, int asset, int n) {
        if (!w.isHouse(house) || !w.isAsset(asset) || !in(n, 0, 60)
                || w.houses.get(house).piece(asset) == n) {
            return -1;
        }
        act();
        int was = w.houses.get(house).piece(asset);
        w.houses.set(house, w.houses.get(house).holding(asset, n));
        return was;
    }

    int loan(int from, int to, int v) {
        if (!w.isHouse(from) || !w.isHouse(to) || from == to || !in(v, 0, 999)
                || w.loans[from][to] == v) {
            return -1;
        }
        act();
        int was = w.loans[from][to];
        w.loans[from][to] = v;
        return was;
    }

    int curve(int asset, int what, int v) {
        if (!w.isAsset(asset) || !in(what, 0, 1) || !in(v, 1 - what, what == 0 ? 200 : 9)
                || w.assets.get(asset)[what] == v) {
            return -1;
        }
        act();
        int was = w.assets.get(asset)[what];
        w.assets.get(asset)[what] = v;
        return was;
    }

    int lay(int shelf, int kind, int asset, int v) {
        if (!in(shelf, 0, 2) || !in(kind, 0, 1) || !w.isAsset(asset)
                || !in(v, 0, kind == 0 ? 360 : 200)) {
            return -1;
        }
        if (shelf == 0 && kind == 1 || shelf == 1 && kind == 0) {
            return -2;
        }
        if (w.shelves.get(shelf).size() == 4) {
            return -3;
        }
        act();
        w.shelves.get(shelf).add(new Item(kind, asset, v));
        return w.shelves.get(shelf).size() - 1;
    }

    int lift(int shelf, int place) {
        if (!in(shelf, 0, 2) || !in(place, 0, w.shelves.get(shelf).size() - 1)) {
            return -1;
        }
        act();
        w.shelves.get(shelf).remove(place);
        return w.shelves.get(shelf).size();
    }

    int net(int house, int other) {
        if (!w.isHouse(house) || !w.isHouse(other) || house == other
                || w.loans[house][other] == 0 || w.loans[other][house] == 0) {
            return -1;
        }
        act();
        int less = Math.min(w.loans[house][other], w.loans[other][house]);
        w.loans[house][other] -= less;
        w.loans[other][house] -= less;
        return less;
    }

    int merge(int house, int other) {
        if (!w.isHouse(house) || !w.isHouse(other) || house == other) {
            return -1;
        }
        act();
        House a = w.houses.get(house);
        House b = w.houses.get(other);
        List<Integer> pieces = new ArrayList<>();
        for (int i = 0; i < 4; i++) {
            pieces.add(Math.min(60, a.piece(i) + b.piece(i)));
        }
        w.houses.set(house, new House(Math.min(9999, a.cash() + b.cash()),
                Math.min(9999, a.debt() + b.debt()), Math.min(9999, a.floor() + b.floor()),
                a.step(), a.way(), pieces));
        for (int i = 0; i < 6; i++) {
            w.loans[house][i] = i == house ? 0
                    : Math.min(999, w.loans[house][i] + w.loans[other][i]);
            w.loans[i][house] = i == house ? 0
                    : Math.min(999, w.loans[i][house] + w.loans[i][other]);
        }
        w.remove(other);
        return house - (other < house ? 1 : 0);
    }

    int close(int house) {
        if (!w.isHouse(house)) {
            return -1;
        }
        act();
        w.remove(house);
        return w.houses.size();
    }

    int live() {
        State s = w.least();
        if (s.bits() == 0 && s.allSold() == 0) {
            return -1;
        }
        World were = w;
        act();
        int[] left = s.sold().stream().mapToInt(Integer::intValue).toArray();
        for (int h = 0; h < w.houses.size(); h++) {
            int[] must = were.mustSell(s, h);
            for (int a = 0; a < left.length; a++) {
                int n = Math.min(must[a], left[a]);
                left[a] -= n;
                House was = w.houses.get(h);
                w.houses.set(h, was.holding(a, was.piece(a) - n)
                        .with(0, Math.min(9999, was.cash() + n * were.price(s, a))));
            }
        }
        for (int h = 0; h < w.houses.size(); h++) {
            if (s.fallen().get(h)) {
                House was = w.houses.get(h);
                w.houses.set(h, new House(0, 0, 0, was.step(), was.way(), List.of(0, 0, 0, 0)));
                for (int i = 0; i < 6; i++) {
                    w.loans[h][i] = 0;
                    w.loans[i][h] = 0;
                }
            }
        }
        for (int a = 0; a < left.length; a++) {
            int[] curve = w.assets.get(a);
            curve[0] = Math.max(1, curve[0] - curve[1] * s.sold().get(a));
        }
        return s.allSold();
    }

    int undo() {
        if (acts.isEmpty()) {
            return -1;
        }
        w = acts.pop();
        return acts.size();
    }

    int of(int house, int what) {
        if (!w.isHouse(house) || !in(what, 0, 7)) {
            return -1;
        }
        if (what < 5) {
            return w.houses.get(house).fact(what);
        }
        int from = Arrays.stream(w.loans[house]).sum();
        int to = Arrays.stream(w.loans).mapToInt(row -> row[house]).sum();
        return what == 5 ? w.houses.get(house).allPieces() : what == 6 ? from : to;
    }

    int holding(int house, int asset) {
        return w.isHouse(house) && w.isAsset(asset) ? w.houses.get(house).piece(asset) : -1;
    }

    int owes(int from, int to) {
        return w.isHouse(from) && w.isHouse(to) ? w.loans[from][to] : -1;
    }

    int ofAsset(int asset, int what) {
        if (!w.isAsset(asset) || !in(what, 0, 4)) {
            return -1;
        }
        return new int[] {w.assets.get(asset)[0], w.assets.get(asset)[1], w.held(asset),
            w.cap(asset), w.shocks(asset)}[what];
    }

    int shelf(int shelf, int place, int what) {
        if (!in(shelf, 0, 2) || !in(place, 0, w.shelves.get(shelf).size() - 1) || !in(what, 0, 2)) {
            return -1;
        }
        Item item = w.shelves.get(shelf).get(place);
        return what == 0 ? item.kind() : what == 1 ? item.asset() : item.v();
    }

    private State which(int which) {
        return which == 0 ? w.calm() : which == 1 ? w.least()
                : which == 2 ? w.greatest() : w.panic();
    }

    int state(int which, int what) {
        return in(which, 0, 3) && w.isAsked(what) ? w.tell(which(which), what) : -1;
    }

    int rounds(boolean greatest) {
        return w.path(greatest ? w.panic() : w.calm()).size() - 1;
    }

    int price(int which, int asset) {
        return in(which, 0, 3) && w.isAsset(asset) ? w.price(which(which), asset) : -1;
    }

    int worth(int which, int house) {
        return in(which, 0, 3) && w.isHouse(house) ? w.worth(which(which), house) : -1000000;
    }

    int mustSell(int which, int house, int asset) {
        if (!in(which, 0, 3) || !w.isHouse(house) || asset != -1 && !w.isAsset(asset)) {
            return -1;
        }
        int[] must = w.mustSell(which(which), house);
        return asset == -1 ? Arrays.stream(must).sum() : must[asset];
    }

    private State roundState(int k) {
        List<State> path = w.rise();
        return path.get(Math.min(k, path.size() - 1));
    }

    int round(int k, int what) {
        return in(k, 0, 2000) && w.isAsked(what) ? w.tell(roundState(k), what) : -1;
    }

    int worthIn(int k, int house) {
        return in(k, 0, 2000) && w.isHouse(house) ? w.worth(roundState(k), house) : -1000000;
    }

    int sharpest() {
        List<State> path = w.rise();
        int best = -2;
        int most = 0;
        for (int k = 1; k < path.size(); k++) {
            int more = w.lost(path.get(k)) - w.lost(path.get(k - 1));
            if (more > most) {
                best = k;
                most = more;
            }
        }
        return best;
    }

    int fellIn(int house) {
        if (!w.isHouse(house)) {
            return -1;
        }
        List<State> path = w.rise();
        for (int k = 0; k < path.size(); k++) {
            if (path.get(k).fallen().get(house)) {
                return k;
            }
        }
        return -2;
    }

    int ranked(int k) {
        if (!in(k, 0, w.houses.size() - 1)) {
            return -1;
        }
        List<Integer> all = new ArrayList<>();
        for (int h = 0; h < w.houses.size(); h++) {
            all.add(h);
        }
        all.sort(Comparator.comparingInt(h -> fellIn(h) == -2 ? 9999 : fellIn(h)));
        return all.get(k);
    }

    private State told(int sold, int more, int fallen) {
        int[] all = {sold / 1000, sold % 1000, more / 1000, more % 1000};
        if (sold < 0 || more < 0 || fallen < 0 || fallen >> w.houses.size() != 0) {
            return null;
        }
        List<Integer> list = new ArrayList<>();
        for (int a = 0; a < 4; a++) {
            if (a < w.assets.size()) {
                list.add(all[a]);
            }
            if (all[a] > (a < w.assets.size() ? w.held(a) : 0)) {
                return null;
            }
        }
        List<Boolean> bits = new ArrayList<>();
        for (int h = 0; h < w.houses.size(); h++) {
            bits.add((fallen & 1 << h) != 0);
        }
        return new State(list, bits);
    }

    int next(int sold, int more, int fallen, int what) {
        if (!w.isAsked(what)) {
            return -1;
        }
        State s = told(sold, more, fallen);
        return s == null ? -2 : w.tell(w.next(s), what);
    }

    int isSteady(int sold, int more, int fallen) {
        State s = told(sold, more, fallen);
        return s == null ? -2 : w.next(s).equals(s) ? 1 : 0;
    }

    int index(int which) {
        return in(which, 0, 3) ? Float.floatToIntBits(w.index(which(which))) : -1;
    }

    int drop(int which) {
        return in(which, 0, 3) ? (int) ((1f - w.index(which(which))) * 1000f) : -1;
    }

    int ratio(int which, int asset) {
        return in(which, 0, 3) && w.isAsset(asset)
                ? Float.floatToIntBits(w.ratio(which(which), asset)) : -1;
    }

    private double moodNow() {
        double mood = 1;
        List<State> path = w.rise();
        for (State s : path.subList(1, path.size())) {
            mood = mood / 2 + (double) w.index(s) / 2;
        }
        return mood;
    }

    long mood() {
        return Double.doubleToLongBits(moodNow());
    }

    int hundredths() {
        return (int) (moodNow() * 100);
    }

    int rescue(int house, int coins, int what) {
        if (!w.isHouse(house) || !in(coins, 0, 9999) || !w.isAsked(what)) {
            return -1;
        }
        World were = w.richer(house, coins);
        return were.tell(were.least(), what);
    }

    private static int lostIn(World were) {
        return were.lost(were.least());
    }

    private static int bestOf(World were, int coins) {
        int best = 0;
        for (int h = 1; h < were.houses.size(); h++) {
            if (lostIn(were.richer(h, coins)) < lostIn(were.richer(best, coins))) {
                best = h;
            }
        }
        return best;
    }

    int helper(int coins, int what) {
        if (!in(coins, 0, 9999) || !in(what, 0, 1)) {
            return -1;
        }
        if (w.houses.isEmpty()) {
            return -2;
        }
        int best = bestOf(w, coins);
        return what == 0 ? best : lostIn(w.richer(best, coins));
    }

    private static int first(int from, int to, IntPredicate holds) {
        for (int v = from; v != to; v += Integer.compare(to, from)) {
            if (holds.test(v)) {
                return v;
            }
        }
        return holds.test(to) ? to : -2;
    }

    int coinsFor(int house) {
        return w.isHouse(house) ? first(0, 9999, v -> w.richer(house, v).stands()) : -1;
    }

    int aid(int n, int v, int house) {
        if (!in(n, 0, 6) || !in(v, 1, 999) || house != -1 && !w.isHouse(house)) {
            return -1;
        }
        if (w.houses.isEmpty()) {
            return -2;
        }
        World were = w;
        int count = 0;
        for (int i = 0; i < n; i++) {
            int best = bestOf(were, v);
            were = were.richer(best, v);
            count += best == house ? 1 : 0;
        }
        return house == -1 ? lostIn(were) : count;
    }

    private void rows(int n, List<Integer> row, List<List<Integer>> all) {
        if (row.size() == w.houses.size()) {
            if (n == 0) {
                all.add(row);
            }
            return;
        }
        for (int i = 0; i <= n; i++) {
            List<Integer> longer = new ArrayList<>(row);
            longer.add(i);
            rows(n - i, longer, all);
        }
    }

    int bestAid(int n, int v, int house) {
        if (!in(n, 0, 4) || !in(v, 1, 999) || house != -1 && !w.isHouse(house)) {
            return -1;
        }
        if (w.houses.isEmpty()) {
            return -2;
        }
        List<List<Integer>> all = new ArrayList<>();
        rows(n, List.of(), all);
        List<Integer> best = null;
        int least = 0;
        for (List<Integer> row : all) {
            World were = w;
            for (int h = 0; h < row.size(); h++) {
                were = were.richer(h, row.get(h) * v);
            }
            if (best == null || lostIn(were) < least) {
                best = row;
                least = lostIn(were);
            }
        }
        return house == -1 ? least : best.get(house);
    }

    int buyer(int asset, int n, int what) {
        if (!w.isAsset(asset) || !in(n, 0, 360) || !w.isAsked(what)) {
            return -1;
        }
        World were = w.copy();
        were.buyerOf = asset;
        were.bought = n;
        return were.tell(were.least(), what);
    }

    private World laid(int kind, int asset, int v) {
        World were = w.copy();
        were.shelves.get(2).add(new Item(kind, asset, v));
        return were;
    }

    int capFor(int asset) {
        return w.isAsset(asset) ? first(360, 0, v -> laid(0, asset, v).stands()) : -1;
    }

    int shockFor(int asset) {
        return w.isAsset(asset) ? first(200, 0, v -> laid(1, asset, v).stands()) : -1;
    }

    private World fallen(int house) {
        World were = w.copy();
        were.with = house;
        return were;
    }

    int domino(int house, int what) {
        if (!w.isHouse(house) || !w.isAsked(what)) {
            return -1;
        }
        World were = fallen(house);
        return were.tell(were.least(), what);
    }

    int keystone() {
        Function<Integer, Integer> count = h -> Integer.bitCount(fallen(h).least().bits());
        int best = w.houses.isEmpty() ? -2 : 0;
        for (int h = 1; h < w.houses.size(); h++) {
            best = count.apply(h) > count.apply(best) ? h : best;
        }
        return best;
    }

    int pulls(int house) {
        if (!w.isHouse(house)) {
            return -1;
        }
        int bits = 0;
        for (int h = 0; h < w.houses.size(); h++) {
            if (h != house && fallen(house).least().fallen().get(h) && !w.least().fallen().get(h)) {
                bits |= 1 << h;
            }
        }
        return bits;
    }

    int room(int house) {
        return w.isHouse(house)
                ? first(w.houses.get(house).cash(), 0, v -> w.richer(house, -v).stands()) : -1;
    }

    private World stressed(int hundredths) {
        World were = w.copy();
        for (int[] curve : were.assets) {
            curve[0] = curve[0] * hundredths / 100;
        }
        return were;
    }

    int stress(int hundredths, int what) {
        if (!in(hundredths, 0, 100) || !w.isAsked(what)) {
            return -1;
        }
        World were = stressed(hundredths);
        return were.tell(were.least(), what);
    }

    int fewest() {
        return first(0, 100, v -> stressed(v).stands());
    }

    int doubtful() {
        return w.greatest().bits() & ~w.least().bits();
    }

    String spelt() {
        StringBuilder all = new StringBuilder();
        for (int[] curve : w.assets) {
            all.append(String.format("asset %d %d;", curve[0], curve[1]));
        }
        for (House h : w.houses) {
            all.append(String.format("house %d %d %d %d %d", h.cash(), h.debt(), h.floor(),
                    h.step(), h.way()));
            for (int a = 0; a < w.assets.size(); a++) {
                all.append(" ").append(h.piece(a));
            }
            all.append(";");
        }
        for (int i = 0; i < 6; i++) {
            for (int j = 0; j < 6; j++) {
                if (w.loans[i][j] != 0) {
                    all.append(String.format("loan %d %d %d;", i, j, w.loans[i][j]));
                }
            }
        }
        for (int shelf = 0; shelf < 2; shelf++) {
            for (Item item : w.shelves.get(shelf)) {
                all.append(String.format("%s %d %d;", shelf == 0 ? "cap" : "shock", item.asset(),
                        item.v()));
            }
        }
        return all.toString();
    }

    int spell(int i) {
        String all = spelt();
        return i < -1 ? -1 : i == -1 ? all.length() : i < all.length() ? all.charAt(i) : -2;
    }

    int count(int what) {
        int loans = 0;
        for (int[] row : w.loans) {
            loans += (int) Arrays.stream(row).filter(v -> v != 0).count();
        }
        int held = 0;
        for (int a = 0; a < w.assets.size(); a++) {
            held += w.held(a);
        }
        int[] all = {w.assets.size(), w.houses.size(), acts.size(), tape.length(),
            w.shelves.get(0).size(), w.shelves.get(1).size(), w.shelves.get(2).size(), loans, held};
        return in(what, 0, 8) ? all[what] : -1;
    }
}
