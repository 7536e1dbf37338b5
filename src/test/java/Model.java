import java.math.BigInteger;
import java.util.ArrayList;
import java.util.Arrays;
import java.util.List;
import java.util.regex.Matcher;
import java.util.regex.Pattern;

/**
 * The document's words once more, as slowly and plainly as they can be written, by other
 * ways than the class goes: all orders, all sets, all arrangements. ModelTest compares both.
 */
final class Model {
    static final int FAR = 10_000_000;
    static final long NONE = Checks.NONE;
    static final long BAD = Checks.BAD;
    static final long STATE = Checks.STATE;
    static final long FULL = Checks.FULL;

    /** All that an image keeps; copied whole. */
    static final class World implements Cloneable {
        List<Integer> earns = new ArrayList<>();
        List<int[]> streets = new ArrayList<>();
        List<int[]> goods = new ArrayList<>();
        List<int[]> sellers = new ArrayList<>();
        List<Integer> watchers = new ArrayList<>();
        List<int[]> cellars = new ArrayList<>();
        int near = 0;
        int quiet = 11;
        int pass = 3;
        List<int[]> days = new ArrayList<>();
        List<int[][]> daySaved = new ArrayList<>();
        int[][] owed = new int[5][5];
        int[][] walksFrom = new int[7][];
        int[][] heardFrom = new int[7][];
        int[] raidAt = null;
        boolean raidOfTwo;
        boolean raidKept;
        int[] warned;
        int[] met;
        int[] state;
        int[][] raidSaved;

        World copy() {
            World w = new World();
            w.earns.addAll(earns);
            w.streets.addAll(streets);
            w.goods.addAll(goods);
            for (int[] s : sellers) {
                w.sellers.add(s.clone());
            }
            w.watchers.addAll(watchers);
            w.cellars.addAll(cellars);
            w.walksFrom = walksFrom;
            w.heardFrom = heardFrom;
            w.near = near;
            w.quiet = quiet;
            w.pass = pass;
            w.days.addAll(days);
            w.daySaved.addAll(daySaved);
            for (int i = 0; i < 5; i++) {
                w.owed[i] = owed[i].clone();
            }
            w.raidAt = raidAt;
            w.raidOfTwo = raidOfTwo;
            w.raidKept = raidKept;
            w.warned = warned;
            w.met = met;
            w.state = state;
            w.raidSaved = raidSaved;
            return w;
        }
    }

    World now = null;
    final World[] images = new World[2];
    final int[] lanes = new int[8];
    final int[][] rows = new int[8][];
    String tape = "";
    int fault = 0;
    int status = 0;
    List<Integer> trace = new ArrayList<>();

    // ---- rows

    long found(int k) {
        status = k;
        return Checks.NOT - 10 - k;
    }

    long fine(long answer) {
        status = 0;
        return answer;
    }

    static boolean within(long v, long low, long high) {
        return v >= low && v <= high;
    }

    long row(int row, int lane, int n) {
        if (!within(row, 0, 7) || !within(lane, 0, 2) || n > 40) {
            return BAD;
        }
        if (n < 0) {
            return found(4);
        }
        rows[row] = new int[n];
        lanes[row] = lane;
        return fine(n);
    }

    long set(int row, int i, int v) {
        if (!within(row, 0, 7)) {
            return BAD;
        }
        if (rows[row] == null) {
            return found(1);
        }
        if (!within(i, 0, rows[row].length - 1)) {
            return found(2);
        }
        int bits = lanes[row] == 0 ? 24 : lanes[row] == 1 ? 16 : 0;
        rows[row][i] = v << bits >> bits;
        return fine(rows[row][i]);
    }

    long copy(int a, int i, int b, int j, int n) {
        if (!within(a, 0, 7) || !within(b, 0, 7)) {
            return BAD;
        }
        if (rows[a] == null || rows[b] == null) {
            return found(1);
        }
        if (lanes[a] != lanes[b]) {
            return found(5);
        }
        if (i < 0 || j < 0 || n < 0 || (long) i + n > rows[a].length || (long) j + n > rows[b].length) {
            return found(2);
        }
        int[] ahead = rows[a].clone();
        for (int k = 0; k < n; k++) {
            rows[b][j + k] = ahead[i + k];
        }
        return fine(n);
    }

    long drop(int row) {
        if (!within(row, 0, 7)) {
            return BAD;
        }
        if (rows[row] == null) {
            return found(1);
        }
        int had = rows[row].length;
        rows[row] = null;
        return fine(had);
    }

    // ---- pavements

    long feed(long w, int n) {
        if (!within(n, 1, 8)) {
            return BAD;
        }
        if (tape.length() + n > 600) {
            return FULL;
        }
        for (int k = n - 1; k >= 0; k--) {
            tape += (char) (w >>> 8 * k & 255);
        }
        return tape.length();
    }

    static final class Fault extends Exception {
        private static final long serialVersionUID = 1L;
        final int number;
        final int place;

        Fault(int number, int place) {
            this.number = number;
            this.place = place;
        }
    }

    private List<String> tokens;
    private List<Integer> places;
    private int at;

    private void cutTape() {
        tokens = new ArrayList<>();
        places = new ArrayList<>();
        Matcher m = Pattern.compile("[a-z]+|[0-9]+|[^ \n]", Pattern.DOTALL).matcher(tape);
        while (m.find()) {
            tokens.add(m.group());
            places.add(m.start());
        }
        tokens.add("");
        places.add(tape.length());
        at = 0;
    }

    private boolean ahead(String word) {
        return tokens.get(at).equals(word);
    }

    private Fault faultHere(int number) {
        return new Fault(number, places.get(at));
    }

    private void expect(String token) throws Fault {
        if (!ahead(token)) {
            throw faultHere(1);
        }
        at++;
    }

    private int number(int low, int high, int but) throws Fault {
        if (!tokens.get(at).matches("[0-9]{1,3}")) {
            throw faultHere(1);
        }
        int v = Integer.parseInt(tokens.get(at));
        if (v < low || v > high || v == but) {
            throw faultHere(2);
        }
        at++;
        return v;
    }

    private void word(String word, int have, int most) throws Fault {
        if (!ahead(word)) {
            throw faultHere(1);
        }
        if (have >= most) {
            throw faultHere(3);
        }
        at++;
    }

    private World read() throws Fault {
        World w = new World();
        cutTape();
        do {
            word("corner", w.earns.size(), 7);
            w.earns.add(number(0, 99, -1));
            expect(";");
        } while (ahead("corner"));
        int last = w.earns.size() - 1;
        while (ahead("street")) {
            word("street", w.streets.size(), 16);
            int a = number(0, last, -1);
            int b = number(0, last, a);
            w.streets.add(new int[] {a, b, number(1, 20, -1)});
            expect(";");
        }
        do {
            word("goods", w.goods.size(), 4);
            w.goods.add(new int[] {number(1, 9, -1), number(1, 99, -1), number(0, 99, -1)});
            expect(";");
        } while (ahead("goods"));
        while (ahead("seller")) {
            word("seller", w.sellers.size(), 5);
            w.sellers.add(new int[] {number(0, w.goods.size() - 1, -1), number(0, last, -1)});
            expect(";");
        }
        while (ahead("watcher")) {
            word("watcher", w.watchers.size(), 4);
            w.watchers.add(number(0, last, -1));
            expect(";");
        }
        while (ahead("cellar")) {
            word("cellar", w.cellars.size(), 6);
            w.cellars.add(new int[] {number(0, last, -1), number(0, 99, -1)});
            expect(";");
        }
        if (ahead("law")) {
            at++;
            w.near = number(0, 20, -1);
            w.quiet = number(0, 30, -1);
            w.pass = number(1, 9, -1);
            expect(";");
        }
        expect("");
        return w;
    }

    long pavement() {
        try {
            now = read();
            return now.earns.size();
        } catch (Fault f) {
            fault = f.number;
            return Checks.NOT - 100 - f.place;
        } finally {
            tape = "";
        }
    }

    int corners() {
        return now == null ? 0 : now.earns.size();
    }

    int sellers() {
        return now == null ? 0 : now.sellers.size();
    }

    boolean corner(int c) {
        return within(c, 0, corners() - 1);
    }

    boolean isSeller(int s) {
        return within(s, 0, sellers() - 1);
    }

    boolean watcher(int w) {
        return now != null && within(w, 0, now.watchers.size() - 1);
    }

    int goodsOf(int s) {
        return now.sellers.get(s)[0];
    }

    int cornerOf(int s) {
        return now.sellers.get(s)[1];
    }

    int of(int s, int what) {
        return now.goods.get(goodsOf(s))[what];
    }

    /** Kept with the streets, which never change in a pavement. */
    int distance(int a, int b, boolean heard) {
        int[][] known = heard ? now.heardFrom : now.walksFrom;
        if (known[a] == null) {
            known[a] = distances(a, heard);
        }
        return known[a][b];
    }

    /** Streets are tried again and again till nothing is shorter. */
    private int[] distances(int a, boolean heard) {
        int[] d = new int[corners()];
        Arrays.fill(d, FAR);
        d[a] = 0;
        for (boolean again = true; again;) {
            again = false;
            for (int[] s : now.streets) {
                int w = heard ? (int) Math.ceil((double) s[2] / now.pass) : s[2];
                if (d[s[0]] + w < d[s[1]]) {
                    d[s[1]] = d[s[0]] + w;
                    again = true;
                }
                if (d[s[1]] + w < d[s[0]]) {
                    d[s[0]] = d[s[1]] + w;
                    again = true;
                }
            }
        }
        return d;
    }

    static long orNone(int d) {
        return d >= FAR ? NONE : d;
    }

    long walk(int a, int b, int what) {
        if (!corner(a) || !corner(b) || !within(what, 0, 1)) {
            return BAD;
        }
        return orNone(distance(a, b, what == 1));
    }

    long goes(int s, int c) {
        if (!isSeller(s) || !corner(c)) {
            return BAD;
        }
        int was = cornerOf(s);
        now.sellers.get(s)[1] = c;
        return was;
    }

    long seller(int s, int what) {
        if (!isSeller(s) || !within(what, 0, 4)) {
            return BAD;
        }
        return what < 2 ? now.sellers.get(s)[what] : of(s, what - 2);
    }

    long watch(int w, int c) {
        if (!watcher(w) || !corner(c)) {
            return BAD;
        }
        return now.watchers.set(w, c);
    }

    // ---- raids

    int street(int a, int b) {
        int least = FAR;
        for (int[] s : now.streets) {
            if (s[0] == a && s[1] == b || s[0] == b && s[1] == a) {
                least = Math.min(least, s[2]);
            }
        }
        return least;
    }

    long raid(int row, int i, int n) {
        return raidBy(row, new int[] {i}, n);
    }

    long two(int row, int i, int j, int n) {
        return raidBy(row, new int[] {i, j}, n);
    }

    private long raidBy(int row, int[] starts, int n) {
        if (!within(row, 0, 7) || !within(n, 1, 10)) {
            return BAD;
        }
        if (now == null) {
            return STATE;
        }
        if (rows[row] == null) {
            return found(1);
        }
        for (int i : starts) {
            if (i < 0 || (long) i + n > rows[row].length) {
                return found(2);
            }
        }
        int[] arrives = new int[corners()];
        Arrays.fill(arrives, FAR);
        for (int i : starts) {
            int minute = 0;
            for (int k = 0; k < n; k++) {
                int c = rows[row][i + k];
                if (!corner(c)) {
                    return BAD;
                }
                if (k > 0) {
                    int s = street(rows[row][i + k - 1], c);
                    if (s >= FAR) {
                        return BAD;
                    }
                    minute += s;
                }
                arrives[c] = Math.min(arrives[c], minute);
            }
        }
        now.raidAt = arrives;
        now.raidOfTwo = starts.length == 2;
        now.raidKept = false;
        judge();
        int bits = 0;
        for (int s = 0; s < sellers(); s++) {
            bits |= now.state[s] == 2 ? 1 << s : 0;
        }
        return fine(bits);
    }

    private int warning(int s, int without) {
        int least = FAR;
        for (int w = 0; w < now.watchers.size(); w++) {
            int c = now.watchers.get(w);
            int heard = distance(c, cornerOf(s), true);
            if (w != without && now.raidAt[c] < FAR && heard < FAR) {
                least = Math.min(least, now.raidAt[c] + heard);
            }
        }
        return least;
    }

    private int stateOf(int s, int warned) {
        int met = now.raidAt[cornerOf(s)];
        if (met < FAR && (warned >= FAR || met < warned + of(s, 0))) {
            return 2;
        }
        return warned < FAR ? 1 : 0;
    }

    private void judge() {
        int n = sellers();
        now.warned = new int[n];
        now.met = new int[n];
        now.state = new int[n];
        now.raidSaved = new int[now.watchers.size()][n];
        for (int s = 0; s < n; s++) {
            now.warned[s] = warning(s, -1);
            now.met[s] = now.raidAt[cornerOf(s)];
            now.state[s] = stateOf(s, now.warned[s]);
            for (int w = 0; w < now.watchers.size(); w++) {
                int without = stateOf(s, warning(s, w)) == 2 ? of(s, 1) + of(s, 2) : 0;
                int with = now.state[s] == 2 ? of(s, 1) + of(s, 2) : 0;
                now.raidSaved[w][s] = without - with;
            }
        }
    }

    long after(int s, int what) {
        if (!(s == -1 && what == 4) && !(isSeller(s) && within(what, 0, 3))) {
            return BAD;
        }
        if (now == null || now.raidAt == null) {
            return STATE;
        }
        if (what == 4) {
            int lost = 0;
            for (int k = 0; k < sellers(); k++) {
                lost += now.state[k] == 2 ? of(k, 1) + of(k, 2) : 0;
            }
            return lost;
        }
        if (what == 3) {
            return now.state[s] == 1 ? of(s, 0) + now.quiet : 0;
        }
        return what == 0 ? orNone(now.warned[s]) : what == 1 ? orNone(now.met[s]) : now.state[s];
    }

    long nothing(int w) {
        if (!watcher(w)) {
            return BAD;
        }
        int sum = 0;
        for (int s = 0; s < sellers(); s++) {
            if (distance(now.watchers.get(w), cornerOf(s), true) < FAR) {
                sum += of(s, 0) + now.quiet;
            }
        }
        return sum;
    }

    long keep() {
        if (now == null || now.raidAt == null || now.raidOfTwo || now.raidKept) {
            return STATE;
        }
        if (now.days.size() == 12) {
            return FULL;
        }
        now.days.add(now.raidAt);
        now.daySaved.add(now.raidSaved);
        now.raidKept = true;
        return now.days.size();
    }

    int came(int c) {
        int days = 0;
        for (int[] d : now.days) {
            days += d[c] < FAR ? 1 : 0;
        }
        return days;
    }

    static long part(long above, long below, int what) {
        return part(BigInteger.valueOf(above), BigInteger.valueOf(below), what);
    }

    static long part(BigInteger above, BigInteger below, int what) {
        BigInteger g = above.gcd(below);
        if (below.signum() < 0) {
            g = g.negate();
        }
        return (what == 0 ? above : below).divide(g).longValueExact();
    }

    long feared(int c, int what) {
        if (!corner(c) || !within(what, 0, 1)) {
            return BAD;
        }
        return part(came(c) + 1, now.days.size() + 2, what);
    }

    // ---- where to stand

    int scoreOf(int s, int c, int[] where) {
        int alike = 1;
        for (int k = 0; k < sellers(); k++) {
            alike += k != s && goodsOf(k) == goodsOf(s) && where[k] == c ? 1 : 0;
        }
        return 60 * now.earns.get(c) / alike
            - 10 * (of(s, 1) + of(s, 2)) * (came(c) + 1) / (now.days.size() + 2);
    }

    boolean mayStand(int goods, int but, int c, int[] where) {
        for (int k = 0; k < sellers(); k++) {
            if (k != but && goodsOf(k) == goods && distance(where[k], c, false) < now.near) {
                return false;
            }
        }
        return true;
    }

    int[] places() {
        int[] where = new int[sellers()];
        for (int s = 0; s < where.length; s++) {
            where[s] = cornerOf(s);
        }
        return where;
    }

    long score(int s, int c) {
        return !isSeller(s) || !corner(c) ? BAD : scoreOf(s, c, places());
    }

    long lawful(int goods, int but) {
        int bits = 0;
        for (int c = 0; c < corners(); c++) {
            bits |= mayStand(goods, but, c, places()) ? 1 << c : 0;
        }
        return bits;
    }

    long may(int s) {
        return !isSeller(s) ? BAD : lawful(goodsOf(s), s);
    }

    long newcomer(int g) {
        return now == null || !within(g, 0, now.goods.size() - 1) ? BAD : lawful(g, -1);
    }

    boolean atRest(int[] where) {
        for (int s = 0; s < where.length; s++) {
            for (int c = 0; c < corners(); c++) {
                if (c != where[s] && scoreOf(s, c, where) > scoreOf(s, where[s], where)
                        && mayStand(goodsOf(s), s, c, where)) {
                    return false;
                }
            }
        }
        return true;
    }

    long rest() {
        return now == null ? STATE : atRest(places()) ? 1 : 0;
    }

    long settle() {
        if (now == null) {
            return STATE;
        }
        int withMove = 0;
        for (int round = 0; round < 40; round++) {
            boolean moved = false;
            for (int s = 0; s < sellers(); s++) {
                int[] where = places();
                int best = -1;
                for (int c = 0; c < corners(); c++) {
                    if (mayStand(goodsOf(s), s, c, where)
                            && (best < 0 || scoreOf(s, c, where) > scoreOf(s, best, where))) {
                        best = c;
                    }
                }
                if (best >= 0 && scoreOf(s, best, where) > scoreOf(s, where[s], where)) {
                    now.sellers.get(s)[1] = best;
                    moved = true;
                }
            }
            if (!moved) {
                return withMove;
            }
            withMove++;
        }
        return NONE;
    }

    long rests(int i) {
        if (i < -1) {
            return BAD;
        }
        if (now == null) {
            return STATE;
        }
        int all = 1;
        for (int s = 0; s < sellers(); s++) {
            all *= 7;
        }
        int seen = 0;
        for (int number = 0; number < all; number++) {
            int[] where = new int[sellers()];
            int left = number;
            boolean fits = true;
            for (int s = 0; s < where.length; s++) {
                where[s] = left % 7;
                left /= 7;
                fits &= corner(where[s]);
            }
            for (int s = 0; fits && s < where.length; s++) {
                fits = mayStand(goodsOf(s), s, where[s], where);
            }
            if (fits && atRest(where)) {
                if (seen == i) {
                    return number;
                }
                seen++;
            }
        }
        return i == -1 ? seen : NONE;
    }

    // ---- pay, cellars, ways, rounds, debts

    int savedBy(int w, int s) {
        int sum = 0;
        for (int[][] day : now.daySaved) {
            sum += day[w][s];
        }
        return sum;
    }

    long saved(int w, int s) {
        return !watcher(w) || !isSeller(s) ? BAD : savedBy(w, s);
    }

    static void orders(int n, int[] order, int depth, int used, List<int[]> into) {
        if (depth == order.length) {
            into.add(order.clone());
            return;
        }
        for (int k = 0; k < n; k++) {
            if ((used >> k & 1) == 0) {
                order[depth] = k;
                orders(n, order, depth + 1, used | 1 << k, into);
            }
        }
    }

    /** All rows of so many different ones of n, in the order of their numbers. */
    static List<int[]> orders(int n, int length) {
        List<int[]> all = new ArrayList<>();
        orders(n, new int[length], 0, 0, all);
        return all;
    }

    long pays(int w, int pay, int s, int what) {
        if (!watcher(w) || !within(pay, 1, 9999) || !isSeller(s) || !within(what, 0, 1)) {
            return BAD;
        }
        List<int[]> all = orders(sellers(), sellers());
        long parts = 0;
        for (int[] order : all) {
            int ahead = 0;
            for (int k : order) {
                int with = ahead + savedBy(w, k);
                if (k == s) {
                    parts += Math.max(0, with - pay) - Math.max(0, ahead - pay);
                }
                ahead = with;
            }
        }
        return part((long) savedBy(w, s) * all.size() - parts, all.size(), what);
    }

    long stored(int k) {
        if (k < -1) {
            return BAD;
        }
        if (now == null) {
            return STATE;
        }
        int least = FAR;
        int[] first = null;
        if (now.cellars.size() >= sellers()) {
            for (int[] order : orders(now.cellars.size(), sellers())) {
                int sum = 0;
                for (int s = 0; s < order.length; s++) {
                    int[] cellar = now.cellars.get(order[s]);
                    sum += 2 * distance(cornerOf(s), cellar[0], false) + cellar[1] * of(s, 1) / 10;
                }
                if (sum < least) {
                    least = sum;
                    first = order;
                }
            }
        }
        if (first == null || k >= sellers()) {
            return NONE;
        }
        return k == -1 ? least : first[k];
    }

    /** Ways as sets of corners between the ends; then the most of them that share none. */
    private void ways(int c, int b, int used, List<Integer> into) {
        for (int d = 0; d < corners(); d++) {
            if ((used >> d & 1) == 0 && street(c, d) < FAR) {
                if (d == b) {
                    into.add(used);
                } else {
                    ways(d, b, used | 1 << d, into);
                }
            }
        }
    }

    private static int most(List<Integer> ways, int from, int used) {
        int best = 0;
        for (int k = from; k < ways.size(); k++) {
            if ((ways.get(k) & used) == 0) {
                best = Math.max(best, 1 + most(ways, k + 1, used | ways.get(k)));
            }
        }
        return best;
    }

    long escapes(int a, int b) {
        if (!corner(a) || !corner(b) || a == b) {
            return BAD;
        }
        List<Integer> sets = new ArrayList<>();
        ways(a, b, 1 << a, sets);
        List<Integer> inner = new ArrayList<>();
        for (int set : sets) {
            int between = set & ~(1 << a);
            if (!inner.contains(between)) {
                inner.add(between);
            }
        }
        inner.sort((x, y) -> Integer.bitCount(x) - Integer.bitCount(y));
        // A way through a smaller set is never worse than one through a larger set around it.
        List<Integer> smallest = new ArrayList<>();
        for (int set : inner) {
            boolean needless = false;
            for (int other : smallest) {
                needless |= other != 0 && (set & other) == other;
            }
            if (!needless) {
                smallest.add(set);
            }
        }
        return most(smallest, 0, 0);
    }

    /** Of all sets of corners, the one whose value is greatest. */
    private BigInteger[] valueOf(int fine) {
        BigInteger above = null;
        BigInteger below = null;
        for (int set = 1; set < 1 << corners(); set++) {
            BigInteger all = BigInteger.ONE;
            for (int c = 0; c < corners(); c++) {
                if ((set >> c & 1) == 1) {
                    all = all.multiply(BigInteger.valueOf(now.earns.get(c) + fine));
                }
            }
            BigInteger up = all.negate();
            BigInteger down = BigInteger.ZERO;
            for (int c = 0; c < corners(); c++) {
                if ((set >> c & 1) == 1) {
                    BigInteger by = all.divide(BigInteger.valueOf(now.earns.get(c) + fine));
                    up = up.add(by.multiply(BigInteger.valueOf(now.earns.get(c))));
                    down = down.add(by);
                }
            }
            if (above == null || up.multiply(below).compareTo(above.multiply(down)) > 0) {
                above = up;
                below = down;
            }
        }
        return new BigInteger[] {above, below};
    }

    long value(int fine, int what) {
        if (!within(fine, 1, 99) || !within(what, 0, 1)) {
            return BAD;
        }
        if (now == null) {
            return STATE;
        }
        BigInteger[] v = valueOf(fine);
        return part(v[0], v[1], what);
    }

    long odds(int fine, int c, int what) {
        if (!within(fine, 1, 99) || !corner(c) || !within(what, 0, 1)) {
            return BAD;
        }
        BigInteger[] v = valueOf(fine);
        BigInteger up = v[1].multiply(BigInteger.valueOf(now.earns.get(c))).subtract(v[0]);
        if (up.signum() <= 0) {
            return what;
        }
        return part(up, v[1].multiply(BigInteger.valueOf(now.earns.get(c) + fine)), what);
    }

    boolean pair(int a, int b) {
        return isSeller(a) && isSeller(b) && a != b;
    }

    long owe(int a, int b, int sum) {
        if (!pair(a, b) || !within(sum, 1, 9999)) {
            return BAD;
        }
        if (now.owed[a][b] + sum > 9999) {
            return FULL;
        }
        now.owed[a][b] += sum;
        return now.owed[a][b];
    }

    long owed(int a, int b) {
        return !pair(a, b) ? BAD : now.owed[a][b];
    }

    private boolean takeRing() {
        for (int length = 2; length <= sellers(); length++) {
            for (int[] ring : orders(sellers(), length)) {
                int least = FAR;
                boolean leastFirst = true;
                for (int k = 0; k < length; k++) {
                    least = Math.min(least, now.owed[ring[k]][ring[(k + 1) % length]]);
                    leastFirst &= ring[k] >= ring[0];
                }
                if (leastFirst && least > 0) {
                    for (int k = 0; k < length; k++) {
                        now.owed[ring[k]][ring[(k + 1) % length]] -= least;
                    }
                    return true;
                }
            }
        }
        return false;
    }

    long passed() {
        if (now == null) {
            return STATE;
        }
        int taken = 0;
        while (takeRing()) {
            taken++;
        }
        return taken;
    }

    long image(int k) {
        if (!within(k, 0, 1)) {
            return BAD;
        }
        if (now == null) {
            return STATE;
        }
        images[k] = now.copy();
        return 1;
    }

    long restore(int k) {
        if (!within(k, 0, 1)) {
            return BAD;
        }
        if (images[k] == null) {
            return STATE;
        }
        now = images[k].copy();
        return 1;
    }

    // ---- asked

    private static final String[] KINDS = {"s", "sf", "sfF", "sc", "scR"};

    int kindOf(int s) {
        int state = now.raidAt == null ? 0 : now.state[s];
        if (state == 2) {
            return of(s, 1) + of(s, 2) > 60 * now.earns.get(cornerOf(s)) ? 4 : 3;
        }
        return state == 1 ? 2 : 1;
    }

    long kind(int s) {
        return !isSeller(s) ? BAD : kindOf(s);
    }

    long as(int s, int kind) {
        if (!isSeller(s) || !within(kind, 0, 4)) {
            return BAD;
        }
        return KINDS[kindOf(s)].startsWith(KINDS[kind]) ? fine(s) : found(3);
    }

    private int size(int s) {
        switch (kindOf(s)) {
            case 1:
                return size11(s);
            case 2:
                trace.add(12);
                return size11(s) - of(s, 0) - now.quiet;
            case 3:
                return size13(s);
            default:
                trace.add(14);
                return 2 * size13(s);
        }
    }

    private int size10(int s) {
        trace.add(10);
        return of(s, 1);
    }

    private int size11(int s) {
        trace.add(11);
        int ten = size10(s);
        return ten + mark(s);
    }

    private int size13(int s) {
        trace.add(13);
        return 0 - size10(s) - of(s, 2);
    }

    private int mark(int s) {
        int kind = kindOf(s);
        if (kind >= 3) {
            trace.add(22);
            trace.add(20);
            return s - size(s);
        }
        if (kind == 2) {
            trace.add(23);
        }
        trace.add(21);
        trace.add(20);
        return s + 10 * cornerOf(s) + (kind == 2 ? 500 : 0);
    }

    long ask(int s, int what) {
        if (!isSeller(s) || !within(what, 0, 1)) {
            return BAD;
        }
        trace.clear();
        return what == 0 ? size(s) : mark(s);
    }

    int trace(int i) {
        return within(i, 0, Math.min(trace.size(), 16) - 1) ? trace.get(i) : (int) NONE;
    }

    long count(int what) {
        int some = 0;
        switch (what) {
            case 0:
                for (int[] r : rows) {
                    some += r == null ? 0 : 1;
                }
                return some;
            case 1:
                return corners();
            case 2:
                for (int a = 0; a < corners(); a++) {
                    for (int b = 0; b < a; b++) {
                        some += street(a, b) < FAR ? 1 : 0;
                    }
                }
                return some;
            case 3:
                return now == null ? 0 : now.goods.size();
            case 4:
                return sellers();
            case 5:
                return now == null ? 0 : now.watchers.size();
            case 6:
                return now == null ? 0 : now.cellars.size();
            case 7:
                return now == null ? 0 : now.days.size();
            case 8:
                return tape.length();
            default:
                return BAD;
        }
    }
}
