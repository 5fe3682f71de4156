import java.util.Set;

/** THE PAIR and THE GAP, and promises 9 to 17. */
final class PairEdges extends Edges {
    private static final int[] SLOPES = {100, 97, 87, 71, 50, 26, 0, -26, -50, -71, -87, -97, -100,
        -97, -87, -71, -50, -26, 0, 26, 50, 71, 87, 97};

    PairEdges(Check check, Set<Integer> promises) {
        super(check, promises);
    }

    private void dressPair(int[] bed, int[] runner) {
        told("dress", 0, bed[0], bed[1], bed[2], bed[3]);
        told("dress", 1, runner[0], runner[1], runner[2], runner[3]);
    }

    private static int[] one(int lead) {
        return new int[] {1, 1, 1, lead};
    }

    // ---- promise 9

    void p09Pair() {
        says(9, "THE PAIR becomes STONES b, r: 1.");
        due(1, "pair", 0, 3);
        due(0, "count", 7);
        due(3, "count", 8);
        due(1, "pair", 3, 0);
        due(3, "count", 7);
        due(0, "count", 8);
        due(1, "pair", 3, 0);
        allFurrow(3);
        due(8, "crossings", 0);
        allFurrow(0);
        due(192, "crossings", 0);
        due(1, "pair", 1, 2);
        due(8, "crossings", 0);
    }

    void p09Refusals() {
        says(9, "UNKNOWN; OUTSIDE: they are the same.");
        within(0, 3, UNKNOWN, 0, "pair", 0, 2);
        within(0, 3, UNKNOWN, 1, "pair", 1, 2);
        for (int k = 0; k < 4; k++) {
            refused(OUTSIDE, "pair", k, k);
        }
        refused(UNKNOWN, "pair", 4, 4);
        refused(UNKNOWN, "pair", -1, -1);
        due(0, "count", 7);
        due(1, "count", 8);
    }

    // ---- promise 10

    void p10Turn() {
        says(10, "At TURN t (0 to 23) above the BED's SPOT (r, a) lies the RUNNER's (r, t less a modulo 24).");
        within(0, 23, UNKNOWN, 0, "crossings", 0);
        dressPair(new int[] {1, 2, 23, 0}, one(0));
        // bed 0 and 23, runner 0
        due(8, "crossings", 0);
        due(0, "crossings", 1);
        due(0, "crossings", 22);
        due(8, "crossings", 23);
        // above 23 lies at turn 0 the runner's 1
        dressPair(new int[] {1, 2, 23, 0}, new int[] {1, 2, 1, 0});
        due(16, "crossings", 0);
        due(8, "crossings", 1);
        due(0, "crossings", 2);
        due(8, "crossings", 23);
    }

    void p10Crossing() {
        says(10, "A SPOT is a CROSSING at t, if both are FURROW");
        allFurrow(0);
        for (int t = 0; t < 24; t += 23) {
            due(8, "crossings", t);
        }
        allFurrow(1);
        due(192, "crossings", 0);
        due(192, "crossings", 23);
        told("dress", 0, 1, 1, 1, 5);
        due(8, "crossings", 11);
    }

    // ---- promise 11

    void p11Round() {
        says(11, "what = 0 CROSSINGS together, 1 the least, 2 the greatest number");
        within(0, 4, OUTSIDE, 0, "round", 0);
        due(8, "round", 0);
        due(0, "round", 1);
        due(8, "round", 2);
        allFurrow(0);
        due(192, "round", 0);
        due(8, "round", 1);
        due(8, "round", 2);
        allFurrow(1);
        due(24 * 192, "round", 0);
        due(192, "round", 1);
        due(192, "round", 2);
    }

    void p11FirstGreatest() {
        says(11, "3 the first TURN with the greatest");
        due(0, "round", 3);
        // 0 and 23 above 0 and 23: once at 0, twice at 23, once at 22
        dressPair(new int[] {1, 2, 23, 0}, new int[] {1, 2, 23, 0});
        due(23, "round", 3);
        due(16, "round", 2);
        // 0 and 23 above 0: at 0 as often as at 23
        told("dress", 0, 1, 1, 1, 0);
        due(0, "round", 3);
        // all TURNS alike
        allFurrow(0);
        due(0, "round", 3);
        // 0 to 3 above 0 to 3: four at turn 3
        dressPair(new int[] {1, 4, 1, 0}, new int[] {1, 4, 1, 0});
        due(3, "round", 3);
        due(32, "round", 2);
    }

    void p11Ground() {
        says(11, "GROUND, if both are LAND.");
        due(8 * 23 * 23, "round", 4);
        told("chisel", 0, 3, 3, 60);
        due(8 * 23 * 23, "round", 4);
        allFurrow(2);
        told("pair", 2, 0);
        due(0, "round", 4);
        told("pair", 0, 2);
        due(0, "round", 4);
        dressPair(new int[] {4, 4, 1, 0}, new int[] {4, 4, 1, 0});
        told("pair", 0, 1);
        due(8 * 8 * 8, "round", 4);
        // LAND in SECTOR 0 too
        dressPair(one(8), one(-5));
        due(8 * 23 * 23, "round", 4);
    }

    // ---- promise 12

    void p12Turn() {
        says(12, "OUTWARD less INWARD at a TURN. -1000: UNKNOWN.");
        within(0, 23, -1000, 0, "outward", 0);
        due(0, "outward", 0);
        due(0, "outward", 23);
    }

    // runner led a SECTOR a RING: RING r crosses at turn r, in SECTOR 0
    void p12OutwardBelowRing7() {
        says(12, "OUTWARD at t: CROSSINGS (r, a) at t, r below 7");
        dressPair(one(0), one(8));
        due(1, "outward", 0);
        due(1, "outward", 5);
        due(1, "outward", 6);
        due(0, "outward", 7);
        due(0, "outward", 8);
        due(0, "outward", 23);
    }

    // runner led back a SECTOR a RING: RING r crosses at turn 24 less r
    void p12InwardAboveRing0() {
        says(12, "INWARD: r above 0, likewise with r less 1.");
        dressPair(one(0), one(-8));
        due(-1, "outward", 17);
        due(-1, "outward", 18);
        due(-1, "outward", 23);
        due(0, "outward", 0);
        due(0, "outward", 16);
    }

    // both at once: each of the 168 SPOTS of RINGS 0 to 6, less each of RINGS 1 to 7
    void p12OutwardAndInward() {
        says(12, "OUTWARD less INWARD at a TURN.");
        allFurrow(0);
        allFurrow(1);
        due(0, "outward", 0);
        due(0, "outward", 23);
        told("dress", 1, 1, 1, 1, 8);
        due(7, "outward", 0);
        due(7, "outward", 23);
        told("dress", 1, 1, 1, 1, -8);
        due(-7, "outward", 0);
        due(-7, "outward", 23);
        told("dress", 1, 1, 1, 1, 0);
        due(0, "outward", 23);
    }

    // the bed's 23 and the runner's 0 meet at turn 23 in RING 0, the bed's 23 and the runner's 1 at turn 0 in RING 1
    void p12NextTurnGoesRound() {
        says(12, "such that at the next TURN one of");
        dressPair(new int[] {1, 2, 23, 0}, one(8));
        due(1, "outward", 23);
        // at turn 5 (5, 0) and (6, 23), at turn 6 (6, 0) and (7, 23), at turn 7 (7, 0)
        due(2, "outward", 5);
        due(1, "outward", 6);
        due(0, "outward", 7);
    }

    // bed at 0 in RING 0 and at 23 in RING 1
    void p12SectorsGoRound() {
        says(12, "(r and 1; a, a and 1, a less 1) is one");
        dressPair(one(-8), one(16));
        due(1, "outward", 0);
        dressPair(one(-8), one(0));
        due(-1, "outward", 23);
        // bed at 0 and at 1, and the runner at 0: one on, and at the same
        dressPair(one(8), one(0));
        due(1, "outward", 0);
        dressPair(one(0), one(8));
        due(1, "outward", 0);
        // two on, and two back: none
        dressPair(one(16), one(-8));
        due(0, "outward", 0);
        dressPair(one(-16), one(24));
        due(0, "outward", 0);
    }

    // ---- promise 13

    void p13Drift() {
        says(13, "OUTWARD less INWARD of all TURNS.");
        due(0, "drift");
        dressPair(one(0), one(8));
        due(7, "drift");
        dressPair(one(0), one(-8));
        due(-7, "drift");
        allFurrow(0);
        due(-7 * 24, "drift");
        told("dress", 1, 1, 1, 1, 8);
        due(7 * 24, "drift");
        allFurrow(1);
        due(0, "drift");
    }

    // ---- promise 14

    void p14Gap() {
        says(14, "GAP becomes v: what it was.");
        due(10, "gap", 1);
        due(1, "gap", 60);
        due(60, "gap", 60);
        due(60, "gapAt", 0, 0, 0);
        within(1, 60, OUTSIDE, 0, "gap", 10);
        due(60, "gap", 10);
    }

    // ---- promise 15

    void p15Kind() {
        says(15, "OUTSIDE: kind is not 0 to 2");
        due(1, "hang", 1, 1, 0);
        due(1, "hang", 2, 1, 0);
        for (int kind : new int[] {LEAST, -1, 3, MOST}) {
            refused(OUTSIDE, "hang", kind, 1, 0);
            refused(OUTSIDE, "hang", kind, 0, 0);
        }
        due(1, "hang", 0, 0, 0);
        due(10, "gaps", 1);
    }

    void p15Size() {
        says(15, "size (0 for kind 0, else 1 to 20)");
        within(0, 0, OUTSIDE, 1, "hang", 0, 0, 0);
        refused(OUTSIDE, "hang", 0, 20, 0);
        within(1, 20, OUTSIDE, 1, "hang", 1, 1, 23);
        within(1, 20, OUTSIDE, 1, "hang", 2, 1, 0);
        due(1, "hang", 1, 20, 0);
        due(30, "gaps", 1);
        due(1, "hang", 2, 1, 0);
        due(11, "gaps", 1);
    }

    void p15Sector() {
        says(15, "d (0 to 23; 0 for kind 0)");
        within(0, 0, OUTSIDE, 2, "hang", 0, 0, 0);
        refused(OUTSIDE, "hang", 0, 0, 23);
        within(0, 23, OUTSIDE, 2, "hang", 1, 20, 0);
        within(0, 23, OUTSIDE, 2, "hang", 2, 20, 0);
        due(1, "hang", 1, 20, 23);
        due(30, "gapAt", 7, 23, 0);
        refused(OUTSIDE, "hang", 1, 20, 24);
        due(30, "gapAt", 7, 23, 0);
    }

    // ---- promise 16

    void p16Slope() {
        says(16, "SLOPE of u SECTORS: 0 100, 1 97, 2 87, 3 71, 4 50, 5 26, 6 0, and below 0 likewise to 12 (-100); round.");
        told("gap", 60);
        told("hang", 1, 20, 0);
        for (int a = 0; a < 24; a++) {
            due(60 + Math.floorDiv(SLOPES[a] * 20, 100), "gapAt", 7, a, 0);
        }
        told("hang", 1, 20, 23);
        due(79, "gapAt", 7, 0, 0);
        due(77, "gapAt", 7, 1, 0);
        due(80, "gapAt", 7, 23, 0);
        due(79, "gapAt", 7, 22, 0);
        due(40, "gapAt", 7, 11, 0);
    }

    // SIZE 20 at the rim alone would not tell a SLOPE of 97 from one of 98
    void p16SlopeBySize() {
        says(16, "SIZE times SLOPE of (a less d; for kind 2: a less d less t) times (r and 1) by 800");
        for (int a = 0; a < 24; a++) {
            anew();
            told("gap", 60);
            for (int size = 1; size <= 20; size++) {
                told("hang", 1, size, 0);
                for (int r = 0; r < 8; r++) {
                    due(60 + Math.floorDiv(size * SLOPES[a] * (r + 1), 800), "gapAt", r, a, 0);
                }
            }
        }
    }

    void p16KindTurns() {
        says(16, "SLOPE of (a less d; for kind 2: a less d less t)");
        told("gap", 60);
        told("hang", 1, 20, 5);
        for (int t = 0; t < 24; t++) {
            due(80, "gapAt", 7, 5, t);
        }
        told("hang", 2, 20, 23);
        // 0 less 23 less t: from 1 down
        for (int t = 0; t < 24; t++) {
            due(60 + Math.floorDiv(SLOPES[(25 - t) % 24] * 20, 100), "gapAt", 7, 0, t);
        }
        due(80, "gapAt", 7, 22, 23);
        told("hang", 0, 0, 0);
        due(60, "gapAt", 7, 22, 23);
    }

    // by 800: SIZE 1 straight on is 100 (r and 1), which is 1 at RING 7 alone; against it -1 in all RINGS
    void p16RoundedDown() {
        says(16, "rounded down, SIZE times SLOPE");
        told("hang", 1, 1, 0);
        due(10, "gapAt", 0, 0, 0);
        due(10, "gapAt", 6, 0, 0);
        due(11, "gapAt", 7, 0, 0);
        due(10, "gapAt", 7, 1, 0);
        due(9, "gapAt", 0, 12, 0);
        due(9, "gapAt", 7, 12, 0);
        due(9, "gapAt", 0, 7, 0);
        due(10, "gapAt", 0, 6, 0);
        due(10, "gapAt", 7, 18, 0);
        due(9, "gapAt", 0, 17, 0);
        told("hang", 1, 2, 0);
        due(10, "gapAt", 2, 0, 0);
        due(11, "gapAt", 3, 0, 0);
        due(11, "gapAt", 6, 0, 0);
        due(12, "gapAt", 7, 0, 0);
        due(9, "gapAt", 3, 12, 0);
        due(8, "gapAt", 4, 12, 0);
    }

    void p16OneAtLeast() {
        says(16, "1 at least.");
        told("gap", 1);
        due(1, "gapAt", 0, 0, 0);
        told("hang", 1, 20, 0);
        due(1, "gapAt", 7, 12, 0);
        due(1, "gapAt", 0, 12, 0);
        due(21, "gapAt", 7, 0, 0);
        told("gap", 20);
        due(1, "gapAt", 7, 12, 0);
        due(1, "gapAt", 7, 11, 0);
        told("gap", 21);
        due(1, "gapAt", 7, 12, 0);
        told("gap", 22);
        due(2, "gapAt", 7, 12, 0);
    }

    void p16Refusals() {
        says(16, "UNKNOWN: r, a, t.");
        within(0, 7, UNKNOWN, 0, "gapAt", 0, 0, 0);
        within(0, 23, UNKNOWN, 1, "gapAt", 7, 0, 0);
        within(0, 23, UNKNOWN, 2, "gapAt", 7, 23, 0);
    }

    // ---- promise 17

    void p17Gaps() {
        says(17, "The least (what = 0), the greatest (1) GAP of all SPOTS and TURNS.");
        within(0, 1, OUTSIDE, 0, "gaps", 0);
        told("gap", 60);
        due(60, "gaps", 0);
        due(60, "gaps", 1);
        for (int kind = 1; kind <= 2; kind++) {
            for (int d = 0; d < 24; d += 23) {
                told("hang", kind, 20, d);
                due(40, "gaps", 0);
                due(80, "gaps", 1);
            }
        }
        told("gap", 1);
        due(1, "gaps", 0);
        due(21, "gaps", 1);
        told("hang", 1, 1, 13);
        due(1, "gaps", 0);
        due(2, "gaps", 1);
        told("gap", 2);
        due(1, "gaps", 0);
        due(3, "gaps", 1);
        told("gap", 3);
        due(2, "gaps", 0);
        due(4, "gaps", 1);
        told("hang", 0, 0, 0);
        due(3, "gaps", 0);
        due(3, "gaps", 1);
    }
}
