import java.util.ArrayList;
import java.util.List;
import java.util.Set;

/** The Terms of single STONES, and promises 1 to 8. */
final class StonesEdges extends Edges {
    StonesEdges(Check check, Set<Integer> promises) {
        super(check, promises);
    }

    // ---- promise 1

    void p01StonesAtFirst() {
        says(1, "(At first all STONES are DRESSED with h 1, m 1, p 1, l 0.)");
        for (int k = 0; k < 4; k++) {
            furrowsAre(k, 0, 0);
            furrowsAre(k, 7, 0);
            due(40, "spot", k, 7, 0, 1);
            due(60, "spot", k, 0, 1, 1);
            due(0, "spot", k, 7, 23, 2);
            due(184 * 60 + 8 * 40, "stuff", k);
        }
        long before = ask("digest");
        for (int k = 0; k < 4; k++) {
            due(8, "dress", k, 1, 1, 1, 0);
        }
        due(before, "digest");
    }

    void p01PairAtFirst() {
        says(1, "(two STONES, unlike; 0 and 1 at first)");
        due(0, "count", 7);
        due(1, "count", 8);
    }

    void p01GapAndHangingAtFirst() {
        says(1, "GAP (1 to 60; 10 at first)");
        due(10, "gaps", 0);
        due(10, "gaps", 1);
        long before = ask("digest");
        told("hang", 0, 0, 0);
        told("gap", 10);
        due(before, "digest");
    }

    void p01MillsAtFirst() {
        says(1, "MILLS 0 to 5 are to be DRESSED (at first none)");
        due(0, "count", 2);
        for (int m = 0; m < 6; m++) {
            due(0, "free", m);
        }
    }

    void p01RoadsAtFirst() {
        says(1, "ROADS between MILLS take 0 to 5 days (0 at first)");
        for (int a = 0; a < 6; a++) {
            for (int b = 0; b < a; b++) {
                due(0, "road", a, b, 0);
            }
        }
    }

    void p01DressersAtFirst() {
        says(1, "DRESSERS (1 to 3; 1 at first)");
        due(1, "count", 3);
        due(1, "dressers", 1);
    }

    void p01NothingAtFirst() {
        says(1, "As told at first.");
        int[] counts = {0, 0, 0, 1, 0, 0, 0, 0, 1};
        for (int what = 0; what < counts.length; what++) {
            due(counts[what], "count", what);
        }
        due(0, "sweep");
        due(0, "numb");
        due(NONE, "meal", 0, 1);
        due(961, "explains");
        due(NONE, "plan");
    }

    void p01ObjectsAreApart() {
        says(1, "As told at first.");
        long first = ask("digest");
        told("dress", 0, 12, 2, 1, 0);
        told("gap", 60);
        told("skip");
        told("feel", 0, 0, 1);
        told("due", 0, 0, 0, 1);
        told("grist", 1, 0);
        anew();
        due(first, "digest");
    }

    // ---- promise 2

    void p02Stone() {
        says(2, "UNKNOWN: k; OUTSIDE.");
        within(0, 3, UNKNOWN, 0, "dress", 0, 2, 1, 1, 0);
        due(16, "dress", 0, 2, 1, 1, 0);
        due(16, "dress", 3, 2, 1, 1, 0);
        due(16 * 40 + 176 * 60, "stuff", 3);
        due(8 * 40 + 184 * 60, "stuff", 2);
    }

    void p02UnknownFirst() {
        says(2, "UNKNOWN: k; OUTSIDE.");
        refused(UNKNOWN, "dress", 4, 5, 1, 1, 0);
        refused(UNKNOWN, "dress", -1, 0, 0, 0, -25);
        refused(OUTSIDE, "dress", 3, 5, 0, 25, 25);
    }

    void p02Harps() {
        says(2, "h HARPS (1, 2, 3, 4, 6, 8, 12)");
        for (int h : new int[] {1, 2, 3, 4, 6, 8, 12}) {
            int lastHarp = 24 / h * (h - 1);
            due(8 * h, "dress", 1, h, 1, 1, 0);
            due(1, "spot", 1, 0, lastHarp, 0);
            due(0, "spot", 1, 0, lastHarp + 1, 0);
        }
        for (int h : new int[] {LEAST, -12, -1, 0, 5, 7, 9, 10, 11, 13, 24, MOST}) {
            refused(OUTSIDE, "dress", 1, h, 1, 1, 0);
        }
        due(96, "dress", 1, 12, 1, 1, 0);
    }

    void p02Furrows() {
        says(2, "m FURROWS each (1 to 4)");
        within(1, 4, OUTSIDE, 2, "dress", 0, 1, 1, 2, 0);
        due(8, "dress", 0, 1, 1, 2, 0);
        furrowsAre(0, 7, 0);
        due(32, "dress", 0, 1, 4, 2, 0);
        furrowsAre(0, 7, 0, 2, 4, 6);
    }

    void p02Pitch() {
        says(2, "a PITCH p (1 to 24)");
        within(1, 24, OUTSIDE, 3, "dress", 0, 1, 2, 1, 0);
        due(16, "dress", 0, 1, 2, 1, 0);
        furrowsAre(0, 3, 0, 1);
        due(16, "dress", 0, 1, 2, 23, 0);
        furrowsAre(0, 3, 0, 23);
        due(8, "dress", 0, 1, 2, 24, 0);
        furrowsAre(0, 3, 0);
    }

    void p02Lead() {
        says(2, "a LEAD l (-24 to 24)");
        within(-24, 24, OUTSIDE, 4, "dress", 0, 1, 1, 1, 0);
        due(8, "dress", 0, 1, 1, 1, 24);
        furrowsAre(0, 0, 0);
        furrowsAre(0, 1, 3);
        furrowsAre(0, 7, 21);
        due(8, "dress", 0, 1, 1, 1, -24);
        furrowsAre(0, 0, 0);
        furrowsAre(0, 1, 21);
        furrowsAre(0, 7, 3);
    }

    // l r by 8, rounded down: of -1 by 8 to -7 by 8 it is -1, and of -8 by 8 too
    void p02LeadIsRoundedDown() {
        says(2, "l r by 8 rounded down");
        int[][] ledTo = {{1, 0, 0, 0}, {-1, 0, 23, 23}, {8, 0, 1, 7}, {-8, 0, 23, 17}, {9, 0, 1, 7},
            {-9, 0, 22, 16}, {7, 0, 0, 6}, {-7, 0, 23, 17}};
        for (int[] row : ledTo) {
            told("dress", 2, 1, 1, 1, row[0]);
            due(1, "spot", 2, 0, row[1], 0);
            due(1, "spot", 2, 1, row[2], 0);
            due(1, "spot", 2, 7, row[3], 0);
        }
    }

    // ring 7, lead 24: 21 and (0 or 12) and (0 or 23); lead -24: the same with -21
    void p02SectorsGoRound() {
        says(2, "rounded down) modulo 24");
        due(32, "dress", 0, 2, 2, 23, 24);
        furrowsAre(0, 7, 8, 9, 20, 21);
        due(32, "dress", 0, 2, 2, 23, -24);
        furrowsAre(0, 7, 2, 3, 14, 15);
        due(96, "dress", 0, 12, 4, 24, 0);
        furrowsAre(0, 7, 0, 2, 4, 6, 8, 10, 12, 14, 16, 18, 20, 22);
    }

    void p02AllFurrow() {
        says(2, "how many SPOTS are FURROW");
        due(8, "dress", 0, 1, 1, 1, 0);
        due(192, "dress", 0, 12, 2, 1, 0);
        due(192, "dress", 0, 12, 4, 1, 24);
        due(192, "dress", 0, 6, 4, 1, -24);
        due(128, "dress", 0, 4, 4, 1, 0);
        due(16, "dress", 0, 2, 4, 12, 0);
    }

    void p02HeightsAndCracks() {
        says(2, "HEIGHTS become 60 on LAND, 40 in FURROWS; CRACKS are gone.");
        for (int[] spot : new int[][] {{0, 0}, {7, 23}, {7, 0}, {0, 1}}) {
            told("chisel", 0, spot[0], spot[1], 60);
            told("crack", 0, spot[0], spot[1], 1);
            told("crack", 1, spot[0], spot[1], 1);
        }
        told("chisel", 1, 7, 23, 60);
        told("dress", 0, 1, 2, 23, 0);
        due(40, "spot", 0, 0, 0, 1);
        due(40, "spot", 0, 7, 23, 1);
        due(60, "spot", 0, 0, 1, 1);
        for (int[] spot : new int[][] {{0, 0}, {7, 23}, {7, 0}, {0, 1}}) {
            due(0, "spot", 0, spot[0], spot[1], 2);
            due(1, "spot", 1, spot[0], spot[1], 2);
        }
        due(16 * 40 + 176 * 60, "stuff", 0);
        due(0, "spot", 1, 7, 23, 1);
        told("dress", 0, 1, 1, 1, 0);
        due(60, "spot", 0, 7, 23, 1);
    }

    private static int[] heights(int k, Call last) {
        StoneFurrows x = new StoneFurrows();
        x.dress(1, 2, 2, 5, 9);
        x.chisel(0, 0, 0, 7);
        x.chisel(0, 5, 5, 60);
        x.chisel(1, 7, 23, 9);
        x.mill(3);
        x.crack(1, 3, 3, true);
        if (last != null) {
            last.on(x);
        }
        int[] all = new int[192];
        for (int i = 0; i < all.length; i++) {
            all[i] = x.spot(k, i / 24, i % 24, 1);
        }
        return all;
    }

    void p02HeightsGrowByNothingElse() {
        says(2, "HEIGHTS never grow else.");
        List<Call> all = new ArrayList<>();
        all.add(new Call("chisel", 0, 5, 5, 60));
        all.add(new Call("chisel", 0, 0, 1, 0));
        all.add(new Call("crack", 0, 5, 5, 1));
        all.add(new Call("mill", 60));
        all.add(new Call("level", 0, 0));
        all.add(new Call("level", 0, 60));
        all.add(new Call("level", 1, 60));
        all.add(new Call("pair", 1, 0));
        all.add(new Call("grist", 100, 0));
        all.add(new Call("plan"));
        all.add(new Call("dress", 0, 5, 1, 1, 0));
        for (Call call : all) {
            for (int k = 0; k < 2; k++) {
                int[] before = heights(k, null);
                int[] now = heights(k, call);
                int grown = 0;
                for (int i = 0; i < now.length; i++) {
                    grown += now[i] > before[i] ? 1 : 0;
                }
                same(call + " lets no HEIGHT of " + k + " grow", 0, grown);
            }
        }
    }

    // ---- promise 3

    void p03Corners() {
        says(3, "STONES 0 to 3 have 8 RINGS (0 at the eye, 7 at the rim) of 24 SECTORS; a SPOT is a RING and a SECTOR.");
        int d = 1;
        for (int k = 0; k < 4; k += 3) {
            for (int[] spot : new int[][] {{0, 1}, {0, 23}, {1, 1}, {6, 23}, {7, 1}, {7, 23}}) {
                told("chisel", k, spot[0], spot[1], d);
                d++;
            }
        }
        d = 1;
        for (int k = 0; k < 4; k += 3) {
            for (int[] spot : new int[][] {{0, 1}, {0, 23}, {1, 1}, {6, 23}, {7, 1}, {7, 23}}) {
                due(60 - d, "spot", k, spot[0], spot[1], 1);
                d++;
            }
        }
        due(40, "spot", 0, 0, 0, 1);
        due(40, "spot", 0, 1, 0, 1);
        due(60, "spot", 1, 0, 1, 1);
    }

    void p03Refusals() {
        says(3, "UNKNOWN: k, r, a; OUTSIDE.");
        within(0, 3, UNKNOWN, 0, "spot", 0, 0, 0, 0);
        within(0, 7, UNKNOWN, 1, "spot", 0, 0, 0, 1);
        within(0, 23, UNKNOWN, 2, "spot", 3, 7, 0, 2);
        within(0, 2, OUTSIDE, 3, "spot", 3, 7, 23, 0);
        refused(UNKNOWN, "spot", 4, 0, 0, 3);
        refused(UNKNOWN, "spot", 0, 8, 0, -1);
        refused(UNKNOWN, "spot", 0, 0, 24, 3);
    }

    void p03Tells() {
        says(3, "what = 0 FURROW (1, 0), 1 HEIGHT, 2 CRACK (1, 0).");
        due(1, "spot", 0, 0, 0, 0);
        due(0, "spot", 0, 0, 1, 0);
        due(40, "spot", 0, 0, 0, 1);
        due(60, "spot", 0, 0, 1, 1);
        due(0, "spot", 0, 0, 0, 2);
        told("crack", 0, 0, 0, 1);
        due(1, "spot", 0, 0, 0, 2);
        due(0, "spot", 0, 0, 1, 2);
        told("chisel", 0, 0, 0, 60);
        due(1, "spot", 0, 0, 0, 0);
        due(0, "spot", 0, 0, 0, 1);
        due(1, "spot", 0, 0, 0, 2);
    }

    // ---- promise 4

    void p04Depth() {
        says(4, "A SPOT is cut d lower (0 to 60)");
        within(0, 60, OUTSIDE, 3, "chisel", 0, 2, 5, 0);
        due(60, "chisel", 0, 2, 5, 0);
        due(59, "chisel", 0, 2, 5, 1);
        due(0, "chisel", 0, 2, 5, 59);
        due(0, "chisel", 0, 2, 6, 60);
        due(1, "chisel", 0, 2, 7, 59);
        due(60, "spot", 0, 2, 8, 1);
        due(60, "spot", 0, 3, 5, 1);
        due(60, "spot", 1, 2, 5, 1);
    }

    void p04NotBelowZero() {
        says(4, "to 0 at least: its HEIGHT");
        due(1, "chisel", 3, 7, 0, 39);
        due(0, "chisel", 3, 7, 0, 2);
        due(0, "chisel", 3, 7, 0, 1);
        due(0, "chisel", 3, 7, 0, 60);
        due(0, "spot", 3, 7, 0, 1);
        due(0, "chisel", 3, 6, 0, 40);
        due(0, "chisel", 3, 5, 0, 41);
        due(184 * 60 + 5 * 40, "stuff", 3);
    }

    void p04Refusals() {
        says(4, "UNKNOWN; OUTSIDE.");
        within(0, 3, UNKNOWN, 0, "chisel", 0, 0, 0, 1);
        within(0, 7, UNKNOWN, 1, "chisel", 0, 0, 0, 1);
        within(0, 23, UNKNOWN, 2, "chisel", 0, 0, 0, 1);
        refused(UNKNOWN, "chisel", 4, 0, 0, 61);
        refused(UNKNOWN, "chisel", 0, 8, 0, -1);
        refused(UNKNOWN, "chisel", 0, 0, 24, 61);
    }

    // ---- promise 5

    void p05Crack() {
        says(5, "A CRACK, or none: 1 if there was one, else 0.");
        due(0, "crack", 3, 7, 23, 0);
        due(0, "crack", 3, 7, 23, 1);
        due(1, "crack", 3, 7, 23, 1);
        due(1, "crack", 3, 7, 23, 0);
        due(0, "crack", 3, 7, 23, 1);
        due(0, "crack", 0, 0, 0, 1);
        due(1, "spot", 0, 0, 0, 2);
        due(0, "spot", 0, 0, 1, 2);
        due(0, "spot", 0, 1, 0, 2);
        due(0, "spot", 1, 0, 0, 2);
        due(40, "spot", 0, 0, 0, 1);
    }

    void p05Refusals() {
        says(5, "UNKNOWN.");
        within(0, 3, UNKNOWN, 0, "crack", 0, 0, 0, 1);
        within(0, 7, UNKNOWN, 1, "crack", 0, 0, 0, 1);
        within(0, 23, UNKNOWN, 2, "crack", 0, 0, 0, 1);
        told("crack", 0, 0, 0, 1);
        refused(UNKNOWN, "crack", 0, 0, 24, 0);
        due(1, "crack", 0, 0, 0, 0);
    }

    // ---- promise 6

    void p06FromFurrowsOfRing0() {
        says(6, "A FURROW LEADS OUT from a SPOT of RING 0 that is FURROW");
        due(1, "leads", 0, 0);
        due(0, "leads", 0, 1);
        allFurrow(0);
        due(24, "leads", 0, 0);
        due(0, "leads", 0, 1);
        told("dress", 0, 1, 1, 1, 16);
        due(0, "leads", 0, 0);
        due(1, "leads", 0, 1);
    }

    // four beside each other, led 0 1 3 4 6 8 9 11: the foremost lags 4 behind at RING 7 alone, so it is shut off there;
    // led 0 1 3 4 6 7 9 10 it is 3 behind, and just comes out
    void p06ToRing7() {
        says(6, "RING by RING to RING 7");
        told("dress", 0, 1, 4, 1, 13);
        due(0, "leads", 0, 0);
        due(4, "leads", 0, 1);
        told("dress", 0, 1, 4, 1, 12);
        due(1, "leads", 0, 0);
        due(3, "leads", 0, 1);
        // led 0 -2 -3 -5 -6 -8 -9 -11, and 0 -2 -3 -5 -6 -7 -9 -10
        told("dress", 0, 1, 4, 1, -12);
        due(0, "leads", 0, 0);
        due(4, "leads", 0, 1);
        told("dress", 0, 1, 4, 1, -11);
        due(1, "leads", 0, 0);
        due(3, "leads", 0, 1);
    }

    void p06Steps() {
        says(6, "whose SECTOR is the same, or one more, or one less");
        int[][] leads = {{0, 1}, {8, 1}, {-8, 1}, {9, 1}, {10, 0}, {16, 0}, {-9, 0}, {-16, 0}};
        for (int[] row : leads) {
            told("dress", 2, 1, 1, 1, row[0]);
            due(row[1], "leads", 2, 0);
            due(1 - row[1], "leads", 2, 1);
        }
    }

    // from 23 one comes to ring 1's FURROW at 0; from 0 to ring 1's at 23
    void p06StepsGoRound() {
        says(6, "or one less (round)");
        told("dress", 0, 1, 2, 23, 8);
        furrowsAre(0, 1, 0, 1);
        due(2, "leads", 0, 0);
        told("dress", 0, 1, 1, 1, -8);
        furrowsAre(0, 1, 23);
        due(1, "leads", 0, 0);
    }

    void p06HeightsAreNothingToIt() {
        says(6, "each time to a SPOT that is FURROW");
        told("chisel", 0, 3, 0, 40);
        told("chisel", 0, 3, 1, 60);
        due(1, "leads", 0, 0);
    }

    void p06Refusals() {
        says(6, "UNKNOWN; OUTSIDE.");
        within(0, 3, UNKNOWN, 0, "leads", 0, 0);
        within(0, 1, OUTSIDE, 1, "leads", 0, 0);
        refused(UNKNOWN, "leads", 4, 2);
        refused(UNKNOWN, "leads", -1, -1);
    }

    // ---- promise 7

    private void dressTwo(int[] first, int[] second) {
        told("dress", 0, first[0], first[1], first[2], first[3]);
        told("dress", 1, second[0], second[1], second[2], second[3]);
    }

    void p07Turned() {
        says(7, "its SPOT (r, a) is FURROW just if the other one's (r, a and s) is");
        due(0, "is", 0, 1);
        due(0, "is", 3, 3);
        dressTwo(new int[] {1, 2, 1, 0}, new int[] {1, 2, 23, 0});
        due(23, "is", 0, 1);
        due(1, "is", 1, 0);
        dressTwo(new int[] {1, 2, 1, 0}, new int[] {1, 3, 1, 0});
        due(NONE, "is", 0, 1);
        due(NONE, "is", 1, 0);
    }

    // with 2 HARPS each s has its like 12 further on
    void p07LeastTurn() {
        says(7, "The least s by which STONE k IS STONE j TURNED");
        dressTwo(new int[] {4, 1, 1, 0}, new int[] {4, 1, 1, 0});
        due(0, "is", 0, 1);
        dressTwo(new int[] {2, 2, 1, 0}, new int[] {2, 2, 23, 0});
        due(11, "is", 0, 1);
        due(1, "is", 1, 0);
    }

    void p07UpsideDown() {
        says(7, "UPSIDE DOWN by s: just if the other one's (r, s less a) is.");
        dressTwo(new int[] {1, 1, 1, 8}, new int[] {1, 1, 1, -8});
        due(100, "is", 0, 1);
        dressTwo(new int[] {1, 2, 23, 8}, new int[] {1, 2, 23, -8});
        due(123, "is", 0, 1);
        due(123, "is", 1, 0);
        dressTwo(new int[] {2, 2, 23, 8}, new int[] {2, 2, 23, -8});
        due(111, "is", 0, 1);
        dressTwo(new int[] {1, 2, 3, 8}, new int[] {1, 2, 3, -8});
        due(103, "is", 0, 1);
        // 9 and -9 by 8, rounded down, are no mirrors of one another
        dressTwo(new int[] {1, 1, 1, 9}, new int[] {1, 1, 1, -9});
        due(NONE, "is", 0, 1);
    }

    // 0 and 1 against 0 and 23: UPSIDE DOWN by 0 it would be, but TURNED by 23 it is told
    void p07TurnedBeforeUpsideDown() {
        says(7, "else 100 and the least s by which it IS that UPSIDE DOWN; NONE.");
        dressTwo(new int[] {1, 2, 1, 0}, new int[] {1, 2, 23, 0});
        due(23, "is", 0, 1);
        dressTwo(new int[] {1, 1, 1, 0}, new int[] {1, 1, 1, 8});
        due(NONE, "is", 0, 1);
        // led 0 0 1 2 3 4 5 6 and 0 1 2 3 4 5 6 7: by 1, were it not for RING 0
        dressTwo(new int[] {1, 1, 1, 7}, new int[] {1, 1, 1, 8});
        due(NONE, "is", 0, 1);
        allFurrow(0);
        due(NONE, "is", 0, 1);
        due(NONE, "is", 1, 0);
        allFurrow(1);
        due(0, "is", 0, 1);
    }

    void p07FurrowsAlone() {
        says(7, "its SPOT (r, a) is FURROW just if the other one's (r, a and s) is");
        told("chisel", 0, 0, 0, 40);
        told("crack", 1, 0, 0, 1);
        due(0, "is", 0, 1);
    }

    void p07Refusals() {
        says(7, "UNKNOWN.");
        within(0, 3, UNKNOWN, 0, "is", 0, 0);
        within(0, 3, UNKNOWN, 1, "is", 3, 0);
        refused(UNKNOWN, "is", 4, 4);
    }

    // ---- promise 8

    void p08Together() {
        says(8, "The HEIGHTS of all of a STONE together.");
        due(11360, "stuff", 0);
        due(11360, "stuff", 3);
        allFurrow(3);
        due(7680, "stuff", 3);
        told("chisel", 3, 0, 0, 1);
        told("chisel", 3, 7, 23, 2);
        due(7677, "stuff", 3);
        due(11360, "stuff", 2);
    }

    void p08NothingLeft() {
        says(8, "The HEIGHTS of all of a STONE together.");
        for (int i = 0; i < 192; i++) {
            told("chisel", 2, i / 24, i % 24, 60);
        }
        due(0, "stuff", 2);
        due(11360, "stuff", 1);
    }

    void p08Refusals() {
        says(8, "UNKNOWN.");
        within(0, 3, UNKNOWN, 0, "stuff", 0);
    }
}
