/**
 * Furrows cut in stone: millstones, how two of them grind, wear and hang, what
 * their meal tells, and in what order dressers go from mill to mill.
 */
public final class StoneFurrows {
    public static final int NONE = -1, UNKNOWN = -101, OUTSIDE = -102, STATE = -103, FULL = -104;

    private static final int STONES = 4;
    private static final int RINGS = 8;
    private static final int SECTORS = 24;
    private static final int SPOTS = 192;
    private static final int NO_TURN = -1000;
    private static final int MOST_GRISTS = 40;
    private static final int MOST_PLANS = 20;

    private final Stone[] stones = new Stone[STONES];
    private final Couple couple;
    private final Hanging hanging = new Hanging();
    private final Grain traveller = new Grain();
    private final Touches touches = new Touches();
    private final Hours hours = new Hours();
    private final Mills mills = new Mills();
    private final Planner planner = new Planner();
    private int bed = 0;
    private int runner = 1;
    private int gristsDone = 0;
    private int plansDone = 0;
    private int bushels = 0;

    public StoneFurrows() {
        for (int k = 0; k < STONES; k++) {
            stones[k] = new Stone();
        }
        couple = new Couple(stones[0], stones[1]);
    }

    // ---- stones

    public int dress(int k, int h, int m, int p, int l) {
        if (!isStone(k)) {
            return UNKNOWN;
        }
        if (!isHarps(h) || !isWithin(m, 1, 4) || !isWithin(p, 1, 24) || !isWithin(l, -24, 24)) {
            return OUTSIDE;
        }
        return stones[k].cutHarps(h, m, p, l);
    }

    public int spot(int k, int r, int a, int what) {
        if (!isStone(k) || !isSpot(r, a)) {
            return UNKNOWN;
        }
        if (!isWithin(what, 0, 2)) {
            return OUTSIDE;
        }
        if (what == 0) {
            return oneIf(stones[k].isFurrow(r, a));
        }
        return what == 1 ? stones[k].heightAt(r, a) : oneIf(stones[k].isCracked(r, a));
    }

    public int chisel(int k, int r, int a, int d) {
        if (!isStone(k) || !isSpot(r, a)) {
            return UNKNOWN;
        }
        if (!isWithin(d, 0, 60)) {
            return OUTSIDE;
        }
        stones[k].lower(r, a, d);
        return stones[k].heightAt(r, a);
    }

    public int crack(int k, int r, int a, boolean is) {
        if (!isStone(k) || !isSpot(r, a)) {
            return UNKNOWN;
        }
        boolean was = stones[k].isCracked(r, a);
        stones[k].setCrack(r, a, is);
        return oneIf(was);
    }

    public int leads(int k, int what) {
        if (!isStone(k)) {
            return UNKNOWN;
        }
        if (!isWithin(what, 0, 1)) {
            return OUTSIDE;
        }
        return stones[k].countLeading(what == 0);
    }

    public int is(int k, int j) {
        if (!isStone(k) || !isStone(j)) {
            return UNKNOWN;
        }
        for (int s = 0; s < SECTORS; s++) {
            if (stones[k].matches(stones[j], s, 1)) {
                return s;
            }
        }
        for (int s = 0; s < SECTORS; s++) {
            if (stones[k].matches(stones[j], s, -1)) {
                return 100 + s;
            }
        }
        return NONE;
    }

    public int stuff(int k) {
        return isStone(k) ? stones[k].sumOfHeights() : UNKNOWN;
    }

    // ---- the pair

    public int pair(int b, int r) {
        if (!isStone(b) || !isStone(r)) {
            return UNKNOWN;
        }
        if (b == r) {
            return OUTSIDE;
        }
        bed = b;
        runner = r;
        couple.join(stones[b], stones[r]);
        return 1;
    }

    public int crossings(int t) {
        return isSector(t) ? couple.countCrossings(t) : UNKNOWN;
    }

    public int round(int what) {
        if (!isWithin(what, 0, 4)) {
            return OUTSIDE;
        }
        return what == 4 ? couple.countGroundOfAll() : couple.crossingsOfAll(what);
    }

    public int outward(int t) {
        return isSector(t) ? couple.outwardLessInward(t) : NO_TURN;
    }

    public int drift() {
        int sum = 0;
        for (int t = 0; t < SECTORS; t++) {
            sum += couple.outwardLessInward(t);
        }
        return sum;
    }

    public int gap(int v) {
        if (!isWithin(v, 1, 60)) {
            return OUTSIDE;
        }
        int was = hanging.width;
        hanging.width = v;
        return was;
    }

    public int hang(int kind, int size, int d) {
        boolean fits;
        if (kind == 0) {
            fits = size == 0 && d == 0;
        } else {
            fits = isWithin(kind, 1, 2) && isWithin(size, 1, 20) && isSector(d);
        }
        if (!fits) {
            return OUTSIDE;
        }
        hanging.become(kind, size, d);
        return 1;
    }

    public int gapAt(int r, int a, int t) {
        if (!isSpot(r, a) || !isSector(t)) {
            return UNKNOWN;
        }
        return hanging.gapOver(r, a, t);
    }

    public int gaps(int what) {
        if (!isWithin(what, 0, 1)) {
            return OUTSIDE;
        }
        return what == 0 ? hanging.leastGap() : hanging.greatestGap();
    }

    public int grain(int a, int t, int size, int what) {
        if (!isSector(a) || !isSector(t)) {
            return UNKNOWN;
        }
        if (!isWithin(size, 1, 100) || !isWithin(what, 0, 6)) {
            return OUTSIDE;
        }
        traveller.begin(a, t, size);
        traveller.travel(couple, hanging);
        return traveller.tell(what);
    }

    public int grist(int size, int what) {
        if (!isWithin(size, 1, 100) || !isWithin(what, 0, 3)) {
            return OUTSIDE;
        }
        if (gristsDone >= MOST_GRISTS) {
            return STATE;
        }
        gristsDone++;
        int answer = 0;
        for (int a = 0; a < SECTORS; a++) {
            for (int t = 0; t < SECTORS; t += 6) {
                traveller.begin(a, t, size);
                traveller.travel(couple, hanging);
                int part = traveller.shareOfGrist(what);
                answer = what == 3 ? Math.max(answer, part) : answer + part;
            }
        }
        return answer;
    }

    // ---- wear

    public int mill(int n) {
        if (!isWithin(n, 1, 60)) {
            return OUTSIDE;
        }
        int lost = 0;
        for (int i = 0; i < n; i++) {
            lost += couple.wearDown();
        }
        bushels += n;
        return lost;
    }

    public int staff(int k, int a, int q) {
        if (!isStone(k) || !isSector(a)) {
            return UNKNOWN;
        }
        return isWithin(q, 0, 20) ? stones[k].marksOnLine(a, q) : OUTSIDE;
    }

    public int high(int k, int q, int what) {
        if (!isStone(k)) {
            return UNKNOWN;
        }
        if (!isWithin(q, 0, 60) || !isWithin(what, 0, 1)) {
            return OUTSIDE;
        }
        int limit = stones[k].leastLand() + q;
        return what == 0 ? stones[k].countLandAbove(limit) : stones[k].sumLandAbove(limit);
    }

    public int level(int k, int q) {
        if (!isStone(k)) {
            return UNKNOWN;
        }
        if (!isWithin(q, 0, 60)) {
            return OUTSIDE;
        }
        int limit = stones[k].leastLand() + q;
        int spots = stones[k].countLandAbove(limit);
        stones[k].cutLandTo(limit);
        return spots;
    }

    public int feel(int a, int t, int v) {
        if (!isSector(a) || !isSector(t)) {
            return UNKNOWN;
        }
        if (!isWithin(v, 1, 100)) {
            return OUTSIDE;
        }
        return touches.add(a, t, v) ? touches.held : FULL;
    }

    public int numb() {
        int were = touches.held;
        touches.held = 0;
        return were;
    }

    public int explains() {
        return touches.countExplaining(hanging.width);
    }

    public int explained(int i) {
        return touches.codeOfExplaining(i, hanging.width);
    }

    // ---- meal

    public int sieve(int coarse, int fine) {
        if (!isWithin(coarse, 0, 1000) || !isWithin(fine, 0, 1000)) {
            return OUTSIDE;
        }
        return hours.add(coarse, fine) ? hours.held : FULL;
    }

    public int skip() {
        return hours.add(NONE, NONE) ? hours.held : FULL;
    }

    public int meal(int x, int what) {
        if (!isWithin(x, 0, 1000) || !isWithin(what, 0, 2)) {
            return OUTSIDE;
        }
        if (what == 0) {
            return hours.countCoarse(x);
        }
        return what == 1 ? hours.dullSince(x) : hours.longestCoarse(x);
    }

    public int sweep() {
        int were = hours.held;
        hours.held = 0;
        return were;
    }

    // ---- dressers

    public int due(int m, int from, int to, int n) {
        if (!isMill(m)) {
            return UNKNOWN;
        }
        if (!isWithin(from, 0, 30) || !isWithin(to, from, 30) || !isWithin(n, 1, 3)) {
            return OUTSIDE;
        }
        if (to - from + 1 < n) {
            return OUTSIDE;
        }
        mills.setDue(m, from, to, n);
        return 1;
    }

    public int free(int m) {
        if (!isMill(m)) {
            return UNKNOWN;
        }
        boolean was = mills.isDue(m);
        mills.setDue(m, NONE, NONE, NONE);
        return oneIf(was);
    }

    public int road(int a, int b, int d) {
        if (!isMill(a) || !isMill(b)) {
            return UNKNOWN;
        }
        if (!isWithin(d, 0, 5) || a == b) {
            return OUTSIDE;
        }
        int was = mills.roadBetween(a, b);
        mills.setRoad(a, b, d);
        return was;
    }

    public int dressers(int n) {
        if (!isWithin(n, 1, 3)) {
            return OUTSIDE;
        }
        int was = mills.dresserCount;
        mills.dresserCount = n;
        return was;
    }

    public int plan() {
        if (plansDone >= MOST_PLANS) {
            return STATE;
        }
        planAnew();
        return planner.latest;
    }

    public int given(int m) {
        if (!isMill(m)) {
            return UNKNOWN;
        }
        if (plansDone >= MOST_PLANS) {
            return STATE;
        }
        planAnew();
        return planner.dresserOf(m);
    }

    public int begun(int m) {
        if (!isMill(m)) {
            return UNKNOWN;
        }
        if (plansDone >= MOST_PLANS) {
            return STATE;
        }
        planAnew();
        return planner.startOf(m);
    }

    // ---- what is told

    public int count(int what) {
        switch (what) {
            case 0: return hours.held;
            case 1: return touches.held;
            case 2: return mills.countDue();
            case 3: return mills.dresserCount;
            case 4: return gristsDone;
            case 5: return plansDone;
            case 6: return bushels;
            case 7: return bed;
            case 8: return runner;
            default: return OUTSIDE;
        }
    }

    public long digest() {
        long h = 223;
        for (int k = 0; k < STONES; k++) {
            h = stones[k].addTo(h);
        }
        h = mix(mix(h, bed), runner);
        h = hanging.addTo(h);
        h = touches.addTo(h);
        h = hours.addTo(h);
        h = mills.addTo(h);
        h = mix(mix(h, mills.dresserCount), gristsDone);
        return mix(mix(h, plansDone), bushels);
    }

    private void planAnew() {
        plansDone++;
        planner.solve(mills);
    }

    private static boolean isWithin(int v, int least, int greatest) {
        return v >= least && v <= greatest;
    }

    private static boolean isStone(int k) {
        return isWithin(k, 0, STONES - 1);
    }

    private static boolean isRing(int r) {
        return isWithin(r, 0, RINGS - 1);
    }

    // a TURN has the same numbers as a SECTOR
    private static boolean isSector(int a) {
        return isWithin(a, 0, SECTORS - 1);
    }

    private static boolean isSpot(int r, int a) {
        return isRing(r) && isSector(a);
    }

    private static boolean isMill(int m) {
        return isWithin(m, 0, Mills.MILLS - 1);
    }

    private static boolean isHarps(int h) {
        return isWithin(h, 1, 4) || h == 6 || h == 8 || h == 12;
    }

    private static int oneIf(boolean holds) {
        return holds ? 1 : 0;
    }

    private static int around(int a) {
        return Math.floorMod(a, SECTORS);
    }

    private static long mix(long h, long number) {
        return 31 * h + number;
    }

    private static int itemOf(int[] row, int i) {
        return i >= 0 && i < row.length ? row[i] : NONE;
    }

    private static void putItem(int[] row, int i, int v) {
        if (i >= 0 && i < row.length) {
            row[i] = v;
        }
    }

    /** One stone: what of it is furrow, how high each spot stands, where it is cracked. */
    private static final class Stone {
        private static final int NO_LAND = 1000;

        private final boolean[] furrows = new boolean[SPOTS];
        private final boolean[] cracks = new boolean[SPOTS];
        private final int[] heights = new int[SPOTS];
        private final boolean[] reached = new boolean[SECTORS];
        private final boolean[] next = new boolean[SECTORS];

        Stone() {
            cutHarps(1, 1, 1, 0);
        }

        int cutHarps(int h, int m, int p, int l) {
            int apart = h > 0 ? SECTORS / h : SECTORS;
            for (int i = 0; i < SPOTS; i++) {
                furrows[i] = false;
                cracks[i] = false;
            }
            for (int r = 0; r < RINGS; r++) {
                int shift = Math.floorDiv(l * r, 8);
                for (int j = 0; j < h; j++) {
                    for (int k = 0; k < m; k++) {
                        setFurrow(r, j * apart + k * p + shift);
                    }
                }
            }
            return layHeights();
        }

        private int layHeights() {
            int count = 0;
            for (int i = 0; i < SPOTS; i++) {
                heights[i] = furrows[i] ? 40 : 60;
                count += oneIf(furrows[i]);
            }
            return count;
        }

        private void setFurrow(int r, int a) {
            if (isRing(r)) {
                furrows[r * SECTORS + around(a)] = true;
            }
        }

        boolean isFurrow(int r, int a) {
            return isRing(r) && furrows[r * SECTORS + around(a)];
        }

        boolean isLand(int r, int a) {
            return isRing(r) && !furrows[r * SECTORS + around(a)];
        }

        int heightAt(int r, int a) {
            return isRing(r) ? heights[r * SECTORS + around(a)] : 0;
        }

        boolean isCracked(int r, int a) {
            return isRing(r) && cracks[r * SECTORS + around(a)];
        }

        void setCrack(int r, int a, boolean holds) {
            if (isRing(r)) {
                cracks[r * SECTORS + around(a)] = holds;
            }
        }

        int lower(int r, int a, int d) {
            if (!isRing(r)) {
                return 0;
            }
            int i = r * SECTORS + around(a);
            int off = Math.min(d, heights[i]);
            heights[i] -= off;
            return off;
        }

        int countLeading(boolean out) {
            int count = 0;
            for (int a = 0; a < SECTORS; a++) {
                if (isFurrow(0, a) && leadsOutFrom(a) == out) {
                    count++;
                }
            }
            return count;
        }

        // all SPOTS of a RING that can be come to are kept at once, so that no way is walked twice
        private boolean leadsOutFrom(int start) {
            for (int a = 0; a < SECTORS; a++) {
                reached[a] = a == start;
            }
            boolean some = true;
            for (int r = 1; r < RINGS && some; r++) {
                some = stepTo(r);
            }
            return some;
        }

        private boolean stepTo(int r) {
            boolean some = false;
            for (int a = 0; a < SECTORS; a++) {
                boolean near = reached[a] || reached[around(a + 1)] || reached[around(a - 1)];
                next[a] = near && isFurrow(r, a);
                some = some || next[a];
            }
            for (int a = 0; a < SECTORS; a++) {
                reached[a] = next[a];
            }
            return some;
        }

        boolean matches(Stone other, int s, int direction) {
            for (int r = 0; r < RINGS; r++) {
                for (int a = 0; a < SECTORS; a++) {
                    if (isFurrow(r, a) != other.isFurrow(r, s + direction * a)) {
                        return false;
                    }
                }
            }
            return true;
        }

        int sumOfHeights() {
            int sum = 0;
            for (int i = 0; i < SPOTS; i++) {
                sum += heights[i];
            }
            return sum;
        }

        boolean hasLand(int r) {
            for (int a = 0; a < SECTORS; a++) {
                if (isLand(r, a)) {
                    return true;
                }
            }
            return false;
        }

        // as one turns, each LAND of a RING comes to lie on each LAND of the other's same RING
        int wearAgainst(Stone other) {
            int top = highestAgainst(other);
            int lost = 0;
            for (int r = 0; r < RINGS; r++) {
                if (other.hasLand(r)) {
                    lost += wearRing(r, top);
                }
            }
            return lost;
        }

        private int highestAgainst(Stone other) {
            int top = 0;
            for (int r = 0; r < RINGS; r++) {
                if (!other.hasLand(r)) {
                    continue;
                }
                for (int a = 0; a < SECTORS; a++) {
                    if (isLand(r, a)) {
                        top = Math.max(top, heightAt(r, a));
                    }
                }
            }
            return top;
        }

        private int wearRing(int r, int top) {
            int lost = 0;
            for (int a = 0; a < SECTORS; a++) {
                if (isLand(r, a) && heightAt(r, a) == top) {
                    lost += lower(r, a, isCracked(r, a) ? 2 : 1);
                }
            }
            return lost;
        }

        int marksOnLine(int a, int q) {
            int top = 0;
            for (int r = 0; r < RINGS; r++) {
                top = Math.max(top, Math.max(heightAt(r, a), heightAt(r, a + 12)));
            }
            int bits = 0;
            for (int r = 0; r < RINGS; r++) {
                bits |= oneIf(heightAt(r, a) >= top - q) << r;
                bits |= oneIf(heightAt(r, a + 12) >= top - q) << (r + 8);
            }
            return bits;
        }

        int leastLand() {
            int least = NO_LAND;
            for (int i = 0; i < SPOTS; i++) {
                if (!furrows[i]) {
                    least = Math.min(least, heights[i]);
                }
            }
            return least;
        }

        int countLandAbove(int limit) {
            int count = 0;
            for (int i = 0; i < SPOTS; i++) {
                count += oneIf(!furrows[i] && heights[i] > limit);
            }
            return count;
        }

        int sumLandAbove(int limit) {
            int sum = 0;
            for (int i = 0; i < SPOTS; i++) {
                if (!furrows[i] && heights[i] > limit) {
                    sum += heights[i] - limit;
                }
            }
            return sum;
        }

        void cutLandTo(int limit) {
            for (int i = 0; i < SPOTS; i++) {
                if (!furrows[i] && heights[i] > limit) {
                    heights[i] = limit;
                }
            }
        }

        long addTo(long start) {
            long h = start;
            for (int i = 0; i < SPOTS; i++) {
                h = mix(h, oneIf(furrows[i]));
                h = mix(h, heights[i]);
                h = mix(h, oneIf(cracks[i]));
            }
            return h;
        }
    }

    /** THE PAIR: a bed and, face down above it, a runner. */
    private static final class Couple {
        private Stone under;
        private Stone over;

        Couple(Stone under, Stone over) {
            this.under = under;
            this.over = over;
        }

        void join(Stone below, Stone above) {
            under = below;
            over = above;
        }

        boolean hasFurrowBelow(int r, int a) {
            return under.isFurrow(r, a);
        }

        boolean hasFurrowAbove(int r, int a, int t) {
            return over.isFurrow(r, t - a);
        }

        boolean crosses(int r, int a, int t) {
            return under.isFurrow(r, a) && over.isFurrow(r, t - a);
        }

        boolean crossesNear(int r, int a, int t) {
            return crosses(r, a, t) || crosses(r, a + 1, t) || crosses(r, a - 1, t);
        }

        int countCrossings(int t) {
            int count = 0;
            for (int r = 0; r < RINGS; r++) {
                for (int a = 0; a < SECTORS; a++) {
                    count += oneIf(crosses(r, a, t));
                }
            }
            return count;
        }

        int countGroundOfAll() {
            int count = 0;
            for (int t = 0; t < SECTORS; t++) {
                for (int r = 0; r < RINGS; r++) {
                    for (int a = 0; a < SECTORS; a++) {
                        count += oneIf(under.isLand(r, a) && over.isLand(r, t - a));
                    }
                }
            }
            return count;
        }

        int crossingsOfAll(int what) {
            int sum = 0;
            int least = SPOTS;
            int greatest = -1;
            int first = 0;
            for (int t = 0; t < SECTORS; t++) {
                int count = countCrossings(t);
                sum += count;
                least = Math.min(least, count);
                if (count > greatest) {
                    greatest = count;
                    first = t;
                }
            }
            switch (what) {
                case 0: return sum;
                case 1: return least;
                case 2: return greatest;
                default: return first;
            }
        }

        // a RING that is none has no CROSSING, so nothing goes behind the rim or before the eye
        int outwardLessInward(int t) {
            int soon = around(t + 1);
            int balance = 0;
            for (int r = 0; r < RINGS; r++) {
                for (int a = 0; a < SECTORS; a++) {
                    if (crosses(r, a, t)) {
                        balance += oneIf(crossesNear(r + 1, a, soon));
                        balance -= oneIf(crossesNear(r - 1, a, soon));
                    }
                }
            }
            return balance;
        }

        int wearDown() {
            return under.wearAgainst(over) + over.wearAgainst(under);
        }
    }

    /** How wide the runner hangs above the bed, and how it leans. */
    private static final class Hanging {
        private static final int[] SLOPES = {100, 97, 87, 71, 50, 26, 0, -26, -50, -71, -87, -97, -100};
        private static final int ALL = 961;
        private static final int OF_A_KIND = 480;

        private int width = 10;
        private int kind = 0;
        private int size = 0;
        private int sector = 0;

        void become(int newKind, int newSize, int newSector) {
            kind = newKind;
            size = newSize;
            sector = newSector;
        }

        // the i-th of ALL HANGINGS, by kind, then SIZE, then SECTOR
        void becomeNumber(int i) {
            if (i <= 0) {
                become(0, 0, 0);
            } else {
                int rest = (i - 1) % OF_A_KIND;
                become(1 + (i - 1) / OF_A_KIND, 1 + rest / SECTORS, rest % SECTORS);
            }
        }

        int code() {
            return 1000 * kind + 24 * size + sector;
        }

        int gapOver(int r, int a, int t) {
            int from = kind == 2 ? a - sector - t : a - sector;
            int more = Math.floorDiv(size * slopeOf(from) * (r + 1), 800);
            return Math.max(1, width + more);
        }

        private static int slopeOf(int u) {
            int way = around(u);
            return itemOf(SLOPES, Math.min(way, SECTORS - way));
        }

        int leastGap() {
            int least = gapOver(0, 0, 0);
            for (int r = 0; r < RINGS; r++) {
                for (int a = 0; a < SECTORS; a++) {
                    for (int t = 0; t < SECTORS; t++) {
                        least = Math.min(least, gapOver(r, a, t));
                    }
                }
            }
            return least;
        }

        int greatestGap() {
            int greatest = gapOver(0, 0, 0);
            for (int r = 0; r < RINGS; r++) {
                for (int a = 0; a < SECTORS; a++) {
                    for (int t = 0; t < SECTORS; t++) {
                        greatest = Math.max(greatest, gapOver(r, a, t));
                    }
                }
            }
            return greatest;
        }

        long addTo(long h) {
            return mix(mix(mix(mix(h, width), kind), size), sector);
        }
    }

    /** A grain on its way from the eye to the rim. */
    private static final class Grain {
        private static final int MOST_BEATS = 300;

        private int ring = 0;
        private int sector = 0;
        private int turn = 0;
        private int size = 0;
        private int cuts = 0;
        private int warmth = 0;
        private int beats = 0;

        void begin(int a, int t, int newSize) {
            ring = 0;
            sector = a;
            turn = t;
            size = newSize;
            cuts = 0;
            warmth = 0;
            beats = 0;
        }

        void travel(Couple couple, Hanging hanging) {
            for (int i = 0; i < MOST_BEATS && ring < RINGS; i++) {
                beat(couple, hanging);
                turn = around(turn + 1);
                beats++;
            }
        }

        private void beat(Couple couple, Hanging hanging) {
            boolean below = couple.hasFurrowBelow(ring, sector);
            boolean above = couple.hasFurrowAbove(ring, sector, turn);
            if (below && above) {
                beCut(hanging.gapOver(ring, sector, turn));
                goOutward(couple);
            } else if (above) {
                sector = around(sector + 1);
            } else if (!below) {
                beGround(hanging.gapOver(ring, sector, turn));
            }
        }

        private void beCut(int gapHere) {
            int shorter = (3 * size + 3) / 4;
            size = Math.min(size, Math.max(shorter, gapHere));
            cuts++;
        }

        private void goOutward(Couple couple) {
            ring++;
            if (couple.hasFurrowBelow(ring, sector)) {
                return;
            }
            if (couple.hasFurrowBelow(ring, sector + 1)) {
                sector = around(sector + 1);
            } else if (couple.hasFurrowBelow(ring, sector - 1)) {
                sector = around(sector - 1);
            }
        }

        private void beGround(int gapHere) {
            if (size > gapHere) {
                size--;
                warmth++;
            }
            if (turn % 2 == 0) {
                sector = around(sector + 1);
            }
        }

        boolean isOut() {
            return ring >= RINGS;
        }

        int tell(int what) {
            switch (what) {
                case 0: return oneIf(isOut());
                case 1: return size;
                case 2: return cuts;
                case 3: return warmth;
                case 4: return beats;
                case 5: return ring;
                default: return sector;
            }
        }

        int shareOfGrist(int what) {
            if (what == 2) {
                return warmth;
            }
            if (!isOut()) {
                return 0;
            }
            return what == 0 ? 1 : size;
        }
    }

    /** What was felt at the sides, and which hangings explain it. */
    private static final class Touches {
        private static final int MOST = 12;

        private final int[] sectors = new int[MOST];
        private final int[] turns = new int[MOST];
        private final int[] values = new int[MOST];
        private final Hanging trial = new Hanging();
        private int held = 0;

        boolean add(int a, int t, int v) {
            if (held >= MOST) {
                return false;
            }
            putItem(sectors, held, a);
            putItem(turns, held, t);
            putItem(values, held, v);
            held++;
            return true;
        }

        private boolean areExplainedByTrial() {
            for (int i = 0; i < held; i++) {
                int gapThere = trial.gapOver(RINGS - 1, itemOf(sectors, i), itemOf(turns, i));
                if (Math.abs(gapThere - itemOf(values, i)) > 1) {
                    return false;
                }
            }
            return true;
        }

        int countExplaining(int width) {
            trial.width = width;
            int found = 0;
            for (int i = 0; i < Hanging.ALL; i++) {
                trial.becomeNumber(i);
                found += oneIf(areExplainedByTrial());
            }
            return found;
        }

        int codeOfExplaining(int wanted, int width) {
            trial.width = width;
            int found = 0;
            for (int i = 0; i < Hanging.ALL; i++) {
                trial.becomeNumber(i);
                if (areExplainedByTrial()) {
                    if (found == wanted) {
                        return trial.code();
                    }
                    found++;
                }
            }
            return NONE;
        }

        long addTo(long start) {
            long h = start;
            for (int i = 0; i < held; i++) {
                h = mix(mix(mix(h, itemOf(sectors, i)), itemOf(turns, i)), itemOf(values, i));
            }
            return h;
        }
    }

    /** The meal sieved hour by hour; an hour at which nobody looked holds NONE. */
    private static final class Hours {
        private static final int MOST = 24;

        private final int[] coarses = new int[MOST];
        private final int[] fines = new int[MOST];
        private int held = 0;

        boolean add(int coarse, int fine) {
            if (held >= MOST) {
                return false;
            }
            putItem(coarses, held, coarse);
            putItem(fines, held, fine);
            held++;
            return true;
        }

        private boolean wasSeen(int i) {
            return itemOf(coarses, i) != NONE;
        }

        private boolean isCoarse(int i, int x) {
            int coarse = itemOf(coarses, i);
            return wasSeen(i) && coarse * 1000 > x * (coarse + itemOf(fines, i));
        }

        int countCoarse(int x) {
            int found = 0;
            for (int i = 0; i < held; i++) {
                found += oneIf(isCoarse(i, x));
            }
            return found;
        }

        int dullSince(int x) {
            int since = NONE;
            for (int i = 0; i < held; i++) {
                if (!wasSeen(i)) {
                    continue;
                }
                if (!isCoarse(i, x)) {
                    since = NONE;
                } else if (since == NONE) {
                    since = i;
                }
            }
            return since;
        }

        int longestCoarse(int x) {
            int longest = 0;
            int run = 0;
            for (int i = 0; i < held; i++) {
                if (wasSeen(i)) {
                    run = isCoarse(i, x) ? run + 1 : 0;
                    longest = Math.max(longest, run);
                }
            }
            return longest;
        }

        long addTo(long start) {
            long h = start;
            for (int i = 0; i < held; i++) {
                h = mix(mix(h, itemOf(coarses, i)), itemOf(fines, i));
            }
            return h;
        }
    }

    /** The mills that are to be dressed, the roads between them, and how many dressers there are. */
    private static final class Mills {
        private static final int MILLS = 6;

        private final int[] firsts = new int[MILLS];
        private final int[] lasts = new int[MILLS];
        private final int[] spans = new int[MILLS];
        private final int[] roads = new int[MILLS * MILLS];
        private int dresserCount = 1;

        Mills() {
            for (int m = 0; m < MILLS; m++) {
                firsts[m] = NONE;
                lasts[m] = NONE;
                spans[m] = NONE;
            }
        }

        void setDue(int m, int from, int to, int n) {
            putItem(firsts, m, from);
            putItem(lasts, m, to);
            putItem(spans, m, n);
        }

        boolean isDue(int m) {
            return itemOf(firsts, m) != NONE;
        }

        int countDue() {
            int found = 0;
            for (int m = 0; m < MILLS; m++) {
                found += oneIf(isDue(m));
            }
            return found;
        }

        int roadBetween(int a, int b) {
            return itemOf(roads, a * MILLS + b);
        }

        void setRoad(int a, int b, int d) {
            putItem(roads, a * MILLS + b, d);
            putItem(roads, b * MILLS + a, d);
        }

        int earliestStart(int m) {
            return itemOf(firsts, m);
        }

        // the dresser was at the mill before, whose last day is told
        int startBehind(int before, int day, int m) {
            return Math.max(itemOf(firsts, m), day + roadBetween(before, m) + 1);
        }

        int lastDay(int m, int start) {
            return start + itemOf(spans, m) - 1;
        }

        boolean isInTime(int m, int start) {
            return lastDay(m, start) <= itemOf(lasts, m);
        }

        long addTo(long start) {
            long h = start;
            for (int m = 0; m < MILLS; m++) {
                h = mix(h, itemOf(firsts, m));
                if (isDue(m)) {
                    h = mix(mix(h, itemOf(lasts, m)), itemOf(spans, m));
                }
            }
            for (int a = 0; a < MILLS; a++) {
                for (int b = a + 1; b < MILLS; b++) {
                    h = mix(h, roadBetween(a, b));
                }
            }
            return h;
        }
    }

    /** Finds THE BEST PLAN. Sets of mills are bits: mill m is bit m. */
    private static final class Planner {
        private static final int MILLS = 6;
        private static final int SETS = 64;
        private static final int NEVER = 1000;

        // ends: a set's mills done and the one told last, on which day at the earliest
        private final int[] ends = new int[SETS * MILLS];
        private final int[] soonest = new int[SETS];
        private final int[] owners = new int[MILLS];
        private final int[] starts = new int[MILLS];
        private int latest = NONE;

        void solve(Mills mills) {
            for (int m = 0; m < MILLS; m++) {
                owners[m] = NONE;
                starts[m] = NONE;
            }
            latest = NONE;
            int wanted = 0;
            for (int m = 0; m < MILLS; m++) {
                wanted |= oneIf(mills.isDue(m)) << m;
            }
            if (wanted == 0) {
                return;
            }
            findEnds(mills, wanted);
            int sharing = bestSharing(wanted, mills.dresserCount);
            if (sharing != NONE) {
                latest = dayOfSharing(wanted, sharing, mills.dresserCount);
                readOwners(wanted, sharing, mills.dresserCount);
                layOut(mills, mills.dresserCount);
            }
        }

        int dresserOf(int m) {
            return itemOf(owners, m);
        }

        int startOf(int m) {
            return itemOf(starts, m);
        }

        private static boolean has(int set, int m) {
            return (set >> m & 1) == 1;
        }

        private void findEnds(Mills mills, int wanted) {
            putItem(soonest, 0, NONE);
            for (int set = 1; set < SETS; set++) {
                int best = NEVER;
                for (int m = 0; m < MILLS; m++) {
                    int end = has(set & wanted, m) ? earliestEnd(mills, set, m) : NEVER;
                    putItem(ends, set * MILLS + m, end);
                    best = Math.min(best, end);
                }
                putItem(soonest, set, best);
            }
        }

        private int earliestEnd(Mills mills, int set, int m) {
            int rest = set & ~(1 << m);
            int start = rest == 0 ? mills.earliestStart(m) : NEVER;
            for (int before = 0; before < MILLS; before++) {
                int day = has(rest, before) ? itemOf(ends, rest * MILLS + before) : NEVER;
                if (day < NEVER) {
                    start = Math.min(start, mills.startBehind(before, day, m));
                }
            }
            return start < NEVER && mills.isInTime(m, start) ? mills.lastDay(m, start) : NEVER;
        }

        // a sharing has a digit for each mill, mill 0's the weightiest: the first of the best is the least
        private int bestSharing(int wanted, int dresserCount) {
            int sharings = 1;
            for (int m = 0; m < MILLS; m++) {
                sharings *= dresserCount;
            }
            int best = NONE;
            int bestDay = NEVER;
            for (int sharing = 0; sharing < sharings; sharing++) {
                int day = dayOfSharing(wanted, sharing, dresserCount);
                if (day < bestDay) {
                    bestDay = day;
                    best = sharing;
                }
            }
            return best;
        }

        private void readOwners(int wanted, int sharing, int dresserCount) {
            int rest = sharing;
            for (int m = MILLS - 1; m >= 0; m--) {
                putItem(owners, m, has(wanted, m) ? digitOf(rest, dresserCount) : NONE);
                rest = withoutDigit(rest, dresserCount);
            }
        }

        private int dayOfSharing(int wanted, int sharing, int dresserCount) {
            int first = 0;
            int second = 0;
            int third = 0;
            int rest = sharing;
            for (int m = MILLS - 1; m >= 0; m--) {
                int bit = wanted & 1 << m;
                int owner = digitOf(rest, dresserCount);
                first |= owner == 0 ? bit : 0;
                second |= owner == 1 ? bit : 0;
                third |= owner == 2 ? bit : 0;
                rest = withoutDigit(rest, dresserCount);
            }
            int day = Math.max(itemOf(soonest, first), itemOf(soonest, second));
            return Math.max(day, itemOf(soonest, third));
        }

        private static int digitOf(int number, int base) {
            return base > 0 ? number % base : 0;
        }

        private static int withoutDigit(int number, int base) {
            return base > 0 ? number / base : 0;
        }

        private void layOut(Mills mills, int dresserCount) {
            for (int owner = 0; owner < dresserCount; owner++) {
                int set = 0;
                for (int m = 0; m < MILLS; m++) {
                    set |= oneIf(itemOf(owners, m) == owner) << m;
                }
                goOn(this, mills, set, NONE, NONE, 0);
            }
        }

        // tries the mills by their numbers, so that the first order that is done in time is the least
        private static boolean goOn(Planner planner, Mills mills, int left, int before, int day, int depth) {
            if (left == 0 || depth >= MILLS) {
                return left == 0;
            }
            for (int m = 0; m < MILLS; m++) {
                if (!has(left, m)) {
                    continue;
                }
                int start = before == NONE ? mills.earliestStart(m) : mills.startBehind(before, day, m);
                int end = mills.lastDay(m, start);
                if (!mills.isInTime(m, start) || end > planner.latest) {
                    continue;
                }
                putItem(planner.starts, m, start);
                if (goOn(planner, mills, left & ~(1 << m), m, end, depth + 1)) {
                    return true;
                }
            }
            return false;
        }
    }
}
