import java.util.ArrayList;
import java.util.Arrays;
import java.util.HashSet;
import java.util.List;
import java.util.Set;

/**
 * The document told a second time, as slowly and as near to its words as may
 * be, so that StoneFurrows can be held against it.
 */
public final class Model {
    static final int NONE = -1, UNKNOWN = -101, OUTSIDE = -102, STATE = -103, FULL = -104;
    private static final List<Integer> HARPS = List.of(1, 2, 3, 4, 6, 8, 12);
    private static final int[] HALF = {100, 97, 87, 71, 50, 26, 0};

    record Seen(int a, int t, int v) { }
    record Hang(int kind, int size, int sector) { }
    record Hour(boolean looked, int coarse, int fine) { }
    record Due(int from, int to, int days) { }

    static final class Spot {
        boolean furrow;
        boolean crack;
        int height;
    }

    /** A plan that can be kept: whom it gives what, in which order, begun when. */
    static final class Plan {
        final List<List<Integer>> orders = new ArrayList<>();
        final int[] owner = new int[6];
        final int[] start = new int[6];
        int latest = NONE;
    }

    private final Spot[][][] spots = new Spot[4][8][24];
    private int bed = 0;
    private int runner = 1;
    private int gap = 10;
    private Hang hang = new Hang(0, 0, 0);
    private final List<Seen> felt = new ArrayList<>();
    private final List<Hour> hours = new ArrayList<>();
    private final Due[] dues = new Due[6];
    private final int[][] roads = new int[6][6];
    private int dressers = 1;
    private int grists = 0;
    private int plans = 0;
    private int bushels = 0;

    public Model() {
        for (int k = 0; k < 4; k++) {
            for (int r = 0; r < 8; r++) {
                for (int a = 0; a < 24; a++) {
                    spots[k][r][a] = new Spot();
                }
            }
            dress(k, 1, 1, 1, 0);
        }
    }

    private static boolean in(int v, int low, int high) {
        return low <= v && v <= high;
    }

    private static boolean stone(int k) {
        return in(k, 0, 3);
    }

    private static boolean sector(int a) {
        return in(a, 0, 23);
    }

    private static boolean place(int k, int r, int a) {
        return stone(k) && in(r, 0, 7) && sector(a);
    }

    private static int mod(int a) {
        return ((a % 24) + 24) % 24;
    }

    private static int down(long a, long b) {
        long q = a / b;
        return (int) (q * b > a ? q - 1 : q);
    }

    public int dress(int k, int h, int m, int p, int l) {
        if (!stone(k)) {
            return UNKNOWN;
        }
        if (!HARPS.contains(h) || !in(m, 1, 4) || !in(p, 1, 24) || !in(l, -24, 24)) {
            return OUTSIDE;
        }
        int count = 0;
        for (int r = 0; r < 8; r++) {
            for (int a = 0; a < 24; a++) {
                Spot s = spots[k][r][a];
                s.furrow = false;
                for (int j = 0; j < h; j++) {
                    for (int i = 0; i < m; i++) {
                        s.furrow |= a == mod(24 * j / h + i * p + down(l * r, 8));
                    }
                }
                s.height = s.furrow ? 40 : 60;
                s.crack = false;
                count += s.furrow ? 1 : 0;
            }
        }
        return count;
    }

    public int spot(int k, int r, int a, int what) {
        if (!place(k, r, a)) {
            return UNKNOWN;
        }
        Spot s = spots[k][r][a];
        return switch (what) {
            case 0 -> s.furrow ? 1 : 0;
            case 1 -> s.height;
            case 2 -> s.crack ? 1 : 0;
            default -> OUTSIDE;
        };
    }

    public int chisel(int k, int r, int a, int d) {
        if (!place(k, r, a)) {
            return UNKNOWN;
        }
        if (!in(d, 0, 60)) {
            return OUTSIDE;
        }
        Spot s = spots[k][r][a];
        s.height = Math.max(0, s.height - d);
        return s.height;
    }

    public int crack(int k, int r, int a, boolean is) {
        if (!place(k, r, a)) {
            return UNKNOWN;
        }
        int was = spots[k][r][a].crack ? 1 : 0;
        spots[k][r][a].crack = is;
        return was;
    }

    private boolean goes(int k, int r, int a) {
        if (!spots[k][r][a].furrow) {
            return false;
        }
        return r == 7 || goes(k, r + 1, a) || goes(k, r + 1, mod(a + 1)) || goes(k, r + 1, mod(a - 1));
    }

    public int leads(int k, int what) {
        if (!stone(k)) {
            return UNKNOWN;
        }
        if (!in(what, 0, 1)) {
            return OUTSIDE;
        }
        int out = 0;
        int all = 0;
        for (int a = 0; a < 24; a++) {
            all += spots[k][0][a].furrow ? 1 : 0;
            out += goes(k, 0, a) ? 1 : 0;
        }
        return what == 0 ? out : all - out;
    }

    private boolean same(int k, int j, int s, boolean upsideDown) {
        for (int r = 0; r < 8; r++) {
            for (int a = 0; a < 24; a++) {
                int b = upsideDown ? mod(s - a) : mod(a + s);
                if (spots[k][r][a].furrow != spots[j][r][b].furrow) {
                    return false;
                }
            }
        }
        return true;
    }

    public int is(int k, int j) {
        if (!stone(k) || !stone(j)) {
            return UNKNOWN;
        }
        for (int s = 0; s < 48; s++) {
            if (same(k, j, s % 24, s >= 24)) {
                return s < 24 ? s : 100 + s - 24;
            }
        }
        return NONE;
    }

    public int stuff(int k) {
        if (!stone(k)) {
            return UNKNOWN;
        }
        int sum = 0;
        for (Spot[] ring : spots[k]) {
            for (Spot s : ring) {
                sum += s.height;
            }
        }
        return sum;
    }

    public int pair(int b, int r) {
        if (!stone(b) || !stone(r)) {
            return UNKNOWN;
        }
        if (b == r) {
            return OUTSIDE;
        }
        bed = b;
        runner = r;
        return 1;
    }

    private boolean below(int r, int a) {
        return spots[bed][r][mod(a)].furrow;
    }

    private boolean above(int r, int a, int t) {
        return spots[runner][r][mod(t - a)].furrow;
    }

    private Set<Integer> crossingSet(int t) {
        Set<Integer> set = new HashSet<>();
        for (int r = 0; r < 8; r++) {
            for (int a = 0; a < 24; a++) {
                if (below(r, a) && above(r, a, t)) {
                    set.add(100 * r + a);
                }
            }
        }
        return set;
    }

    public int crossings(int t) {
        return sector(t) ? crossingSet(t).size() : UNKNOWN;
    }

    public int round(int what) {
        int[] each = new int[24];
        int ground = 0;
        for (int t = 0; t < 24; t++) {
            each[t] = crossingSet(t).size();
            for (int r = 0; r < 8; r++) {
                for (int a = 0; a < 24; a++) {
                    ground += !below(r, a) && !above(r, a, t) ? 1 : 0;
                }
            }
        }
        int top = Arrays.stream(each).max().getAsInt();
        int first = 0;
        while (each[first] != top) {
            first++;
        }
        return switch (what) {
            case 0 -> Arrays.stream(each).sum();
            case 1 -> Arrays.stream(each).min().getAsInt();
            case 2 -> top;
            case 3 -> first;
            case 4 -> ground;
            default -> OUTSIDE;
        };
    }

    public int outward(int t) {
        if (!sector(t)) {
            return -1000;
        }
        Set<Integer> now = crossingSet(t);
        Set<Integer> then = crossingSet(mod(t + 1));
        int balance = 0;
        for (int c : now) {
            int r = c / 100;
            int a = c % 100;
            boolean out = false;
            boolean in = false;
            for (int b = a - 1; b <= a + 1; b++) {
                out |= r < 7 && then.contains(100 * (r + 1) + mod(b));
                in |= r > 0 && then.contains(100 * (r - 1) + mod(b));
            }
            balance += (out ? 1 : 0) - (in ? 1 : 0);
        }
        return balance;
    }

    public int drift() {
        int sum = 0;
        for (int t = 0; t < 24; t++) {
            sum += outward(t);
        }
        return sum;
    }

    public int gap(int v) {
        if (!in(v, 1, 60)) {
            return OUTSIDE;
        }
        int was = gap;
        gap = v;
        return was;
    }

    public int hang(int kind, int size, int d) {
        boolean still = kind == 0 && size == 0 && d == 0;
        boolean moved = (kind == 1 || kind == 2) && in(size, 1, 20) && sector(d);
        if (!still && !moved) {
            return OUTSIDE;
        }
        hang = new Hang(kind, size, d);
        return 1;
    }

    private static int slope(int u) {
        int way = mod(u);
        if (way > 12) {
            way = 24 - way;
        }
        return way <= 6 ? HALF[way] : -HALF[12 - way];
    }

    private int gapOf(Hang h, int r, int a, int t) {
        int u = a - h.sector() - (h.kind() == 2 ? t : 0);
        return Math.max(1, gap + down((long) h.size() * slope(u) * (r + 1), 800));
    }

    public int gapAt(int r, int a, int t) {
        if (!in(r, 0, 7) || !sector(a) || !sector(t)) {
            return UNKNOWN;
        }
        return gapOf(hang, r, a, t);
    }

    public int gaps(int what) {
        if (!in(what, 0, 1)) {
            return OUTSIDE;
        }
        List<Integer> all = new ArrayList<>();
        for (int i = 0; i < 8 * 24 * 24; i++) {
            all.add(gapOf(hang, i / 576, i / 24 % 24, i % 24));
        }
        all.sort(null);
        return what == 0 ? all.get(0) : all.get(all.size() - 1);
    }

    private int[] walk(int a0, int t0, int size0) {
        int r = 0;
        int a = a0;
        int t = t0;
        int size = size0;
        int cuts = 0;
        int warmth = 0;
        int beats = 0;
        while (r < 8 && beats < 300) {
            boolean b = below(r, a);
            boolean o = above(r, a, t);
            int here = gapOf(hang, r, a, t);
            if (b && o) {
                int less = Math.max((int) Math.ceil(size * 0.75), here);
                size = Math.min(less, size);
                cuts++;
                r++;
                int goal = a;
                // the last that fits is kept, so the first choice comes last
                for (int step : new int[] {-1, 1, 0}) {
                    if (r < 8 && below(r, a + step)) {
                        goal = mod(a + step);
                    }
                }
                a = goal;
            } else if (!b && o) {
                a = mod(a + 1);
            } else if (!b) {
                if (size > here) {
                    size--;
                    warmth++;
                }
                if (t % 2 == 0) {
                    a = mod(a + 1);
                }
            }
            t = mod(t + 1);
            beats++;
        }
        return new int[] {r == 8 ? 1 : 0, size, cuts, warmth, beats, r, a};
    }

    public int grain(int a, int t, int size, int what) {
        if (!sector(a) || !sector(t)) {
            return UNKNOWN;
        }
        if (!in(size, 1, 100) || !in(what, 0, 6)) {
            return OUTSIDE;
        }
        return walk(a, t, size)[what];
    }

    public int grist(int size, int what) {
        if (!in(size, 1, 100) || !in(what, 0, 3)) {
            return OUTSIDE;
        }
        if (grists == 40) {
            return STATE;
        }
        grists++;
        int[] sums = new int[4];
        for (int i = 0; i < 96; i++) {
            int[] end = walk(i / 4, 6 * (i % 4), size);
            sums[0] += end[0];
            sums[1] += end[0] * end[1];
            sums[2] += end[3];
            sums[3] = Math.max(sums[3], end[0] * end[1]);
        }
        return sums[what];
    }

    public int mill(int n) {
        if (!in(n, 1, 60)) {
            return OUTSIDE;
        }
        int before = stuff(bed) + stuff(runner);
        Set<Spot> ofBed = new HashSet<>();
        Set<Spot> ofRunner = new HashSet<>();
        for (int t = 0; t < 24; t++) {
            for (int r = 0; r < 8; r++) {
                for (int a = 0; a < 24; a++) {
                    if (!below(r, a) && !above(r, a, t)) {
                        ofBed.add(spots[bed][r][a]);
                        ofRunner.add(spots[runner][r][mod(t - a)]);
                    }
                }
            }
        }
        for (int i = 0; i < n; i++) {
            wear(ofBed);
            wear(ofRunner);
        }
        bushels += n;
        return before - stuff(bed) - stuff(runner);
    }

    private static void wear(Set<Spot> faces) {
        int top = faces.stream().mapToInt(s -> s.height).max().orElse(0);
        for (Spot s : faces) {
            if (s.height == top) {
                s.height = Math.max(0, s.height - (s.crack ? 2 : 1));
            }
        }
    }

    public int staff(int k, int a, int q) {
        if (!stone(k) || !sector(a)) {
            return UNKNOWN;
        }
        if (!in(q, 0, 20)) {
            return OUTSIDE;
        }
        int[] line = new int[16];
        for (int i = 0; i < 16; i++) {
            line[i] = spots[k][i % 8][mod(a + 12 * (i / 8))].height;
        }
        int top = Arrays.stream(line).max().getAsInt();
        int bits = 0;
        for (int i = 0; i < 16; i++) {
            bits += line[i] + q >= top ? 1 << i : 0;
        }
        return bits;
    }

    private List<Spot> land(int k) {
        List<Spot> all = new ArrayList<>();
        for (Spot[] ring : spots[k]) {
            for (Spot s : ring) {
                if (!s.furrow) {
                    all.add(s);
                }
            }
        }
        return all;
    }

    public int high(int k, int q, int what) {
        if (!stone(k)) {
            return UNKNOWN;
        }
        if (!in(q, 0, 60) || !in(what, 0, 1)) {
            return OUTSIDE;
        }
        int limit = land(k).stream().mapToInt(s -> s.height).min().orElse(0) + q;
        int spotsHigh = 0;
        int above = 0;
        for (Spot s : land(k)) {
            spotsHigh += s.height > limit ? 1 : 0;
            above += Math.max(0, s.height - limit);
        }
        return what == 0 ? spotsHigh : above;
    }

    public int level(int k, int q) {
        int answer = high(k, q, 0);
        if (answer < 0) {
            return answer;
        }
        int limit = land(k).stream().mapToInt(s -> s.height).min().orElse(0) + q;
        for (Spot s : land(k)) {
            s.height = Math.min(s.height, limit);
        }
        return answer;
    }

    public int feel(int a, int t, int v) {
        if (!sector(a) || !sector(t)) {
            return UNKNOWN;
        }
        if (!in(v, 1, 100)) {
            return OUTSIDE;
        }
        if (felt.size() == 12) {
            return FULL;
        }
        felt.add(new Seen(a, t, v));
        return felt.size();
    }

    public int numb() {
        int were = felt.size();
        felt.clear();
        return were;
    }

    private List<Hang> explaining() {
        List<Hang> all = new ArrayList<>();
        all.add(new Hang(0, 0, 0));
        for (int kind = 1; kind <= 2; kind++) {
            for (int size = 1; size <= 20; size++) {
                for (int d = 0; d < 24; d++) {
                    all.add(new Hang(kind, size, d));
                }
            }
        }
        all.removeIf(h -> !felt.stream().allMatch(s -> in(gapOf(h, 7, s.a(), s.t()), s.v() - 1, s.v() + 1)));
        return all;
    }

    public int explains() {
        return explaining().size();
    }

    public int explained(int i) {
        List<Hang> all = explaining();
        if (!in(i, 0, all.size() - 1)) {
            return NONE;
        }
        Hang h = all.get(i);
        return 1000 * h.kind() + 24 * h.size() + h.sector();
    }

    public int sieve(int coarse, int fine) {
        if (!in(coarse, 0, 1000) || !in(fine, 0, 1000)) {
            return OUTSIDE;
        }
        return addHour(new Hour(true, coarse, fine));
    }

    public int skip() {
        return addHour(new Hour(false, NONE, NONE));
    }

    private int addHour(Hour hour) {
        if (hours.size() == 24) {
            return FULL;
        }
        hours.add(hour);
        return hours.size();
    }

    private static boolean coarse(Hour h, int x) {
        int all = h.coarse() + h.fine();
        return h.looked() && all > 0 && h.coarse() * 1000 > x * all;
    }

    public int meal(int x, int what) {
        if (!in(x, 0, 1000) || !in(what, 0, 2)) {
            return OUTSIDE;
        }
        StringBuilder seen = new StringBuilder();
        List<Integer> numbers = new ArrayList<>();
        for (int i = 0; i < hours.size(); i++) {
            if (hours.get(i).looked()) {
                seen.append(coarse(hours.get(i), x) ? 'c' : '.');
                numbers.add(i);
            }
        }
        if (what == 0) {
            return (int) seen.chars().filter(c -> c == 'c').count();
        }
        if (what == 1) {
            int since = seen.length();
            while (since > 0 && seen.charAt(since - 1) == 'c') {
                since--;
            }
            return since == seen.length() ? NONE : numbers.get(since);
        }
        int most = 0;
        for (String run : seen.toString().split("\\.")) {
            most = Math.max(most, run.length());
        }
        return most;
    }

    public int sweep() {
        int were = hours.size();
        hours.clear();
        return were;
    }

    private static boolean mills(int m) {
        return in(m, 0, 5);
    }

    public int due(int m, int from, int to, int n) {
        if (!mills(m)) {
            return UNKNOWN;
        }
        if (!in(from, 0, 30) || !in(to, 0, 30) || to < from || !in(n, 1, 3) || from + n - 1 > to) {
            return OUTSIDE;
        }
        dues[m] = new Due(from, to, n);
        return 1;
    }

    public int free(int m) {
        if (!mills(m)) {
            return UNKNOWN;
        }
        int was = dues[m] == null ? 0 : 1;
        dues[m] = null;
        return was;
    }

    public int road(int a, int b, int d) {
        if (!mills(a) || !mills(b)) {
            return UNKNOWN;
        }
        if (!in(d, 0, 5) || a == b) {
            return OUTSIDE;
        }
        int was = roads[a][b];
        roads[a][b] = d;
        roads[b][a] = d;
        return was;
    }

    public int dressers(int n) {
        if (!in(n, 1, 3)) {
            return OUTSIDE;
        }
        int was = dressers;
        dressers = n;
        return was;
    }

    // every plan there is: all the orders of all mills, each order parted among the dressers in every way
    private Plan best() {
        List<Integer> wanted = new ArrayList<>();
        for (int m = 0; m < 6; m++) {
            if (dues[m] != null) {
                wanted.add(m);
            }
        }
        List<List<Integer>> empty = new ArrayList<>();
        for (int d = 0; d < dressers; d++) {
            empty.add(new ArrayList<>());
        }
        Plan[] found = new Plan[1];
        if (!wanted.isEmpty()) {
            tryAll(wanted, 0, empty, found);
        }
        return found[0];
    }

    private void tryAll(List<Integer> wanted, int i, List<List<Integer>> orders, Plan[] found) {
        if (i == wanted.size()) {
            Plan p = timed(orders);
            if (p != null && (found[0] == null || isBetter(p, found[0]))) {
                found[0] = p;
            }
            return;
        }
        for (List<Integer> order : orders) {
            for (int at = 0; at <= order.size(); at++) {
                order.add(at, wanted.get(i));
                tryAll(wanted, i + 1, orders, found);
                order.remove(at);
            }
        }
    }

    private Plan timed(List<List<Integer>> orders) {
        Plan p = new Plan();
        Arrays.fill(p.owner, NONE);
        Arrays.fill(p.start, NONE);
        for (int d = 0; d < orders.size(); d++) {
            int day = 0;
            int at = NONE;
            for (int m : orders.get(d)) {
                day = Math.max(dues[m].from(), at == NONE ? 0 : day + roads[at][m]);
                p.owner[m] = d;
                p.start[m] = day;
                day += dues[m].days();
                if (day - 1 > dues[m].to()) {
                    return null;
                }
                p.latest = Math.max(p.latest, day - 1);
                at = m;
            }
            p.orders.add(new ArrayList<>(orders.get(d)));
        }
        return p;
    }

    private static boolean isBetter(Plan p, Plan q) {
        if (p.latest != q.latest) {
            return p.latest < q.latest;
        }
        if (!Arrays.equals(p.owner, q.owner)) {
            return Arrays.compare(p.owner, q.owner) < 0;
        }
        return p.orders.toString().compareTo(q.orders.toString()) < 0;
    }

    public int plan() {
        if (plans == 20) {
            return STATE;
        }
        plans++;
        Plan p = best();
        return p == null ? NONE : p.latest;
    }

    public int given(int m) {
        if (!mills(m)) {
            return UNKNOWN;
        }
        if (plans == 20) {
            return STATE;
        }
        plans++;
        Plan p = best();
        return p == null ? NONE : p.owner[m];
    }

    public int begun(int m) {
        if (!mills(m)) {
            return UNKNOWN;
        }
        if (plans == 20) {
            return STATE;
        }
        plans++;
        Plan p = best();
        return p == null ? NONE : p.start[m];
    }

    public int count(int what) {
        int due = 0;
        for (Due d : dues) {
            due += d == null ? 0 : 1;
        }
        int[] told = {hours.size(), felt.size(), due, dressers, grists, plans, bushels, bed, runner};
        return in(what, 0, 8) ? told[what] : OUTSIDE;
    }

    public long digest() {
        List<Integer> all = new ArrayList<>();
        for (Spot[][] stone : spots) {
            for (Spot[] ring : stone) {
                for (Spot s : ring) {
                    all.addAll(List.of(s.furrow ? 1 : 0, s.height, s.crack ? 1 : 0));
                }
            }
        }
        all.addAll(List.of(bed, runner, gap, hang.kind(), hang.size(), hang.sector()));
        felt.forEach(s -> all.addAll(List.of(s.a(), s.t(), s.v())));
        hours.forEach(h -> all.addAll(List.of(h.coarse(), h.fine())));
        for (Due d : dues) {
            all.addAll(d == null ? List.of(NONE) : List.of(d.from(), d.to(), d.days()));
        }
        for (int a = 0; a < 6; a++) {
            for (int b = a + 1; b < 6; b++) {
                all.add(roads[a][b]);
            }
        }
        for (int what = 3; what <= 6; what++) {
            all.add(count(what));
        }
        long h = 223;
        for (int number : all) {
            h = 31 * h + number;
        }
        return h;
    }
}
