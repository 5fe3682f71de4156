import java.util.Set;

/** MILLING, THE STAFF, HIGH, and what is FELT: promises 20 to 27. */
final class WearEdges extends Edges {
    private static final int LAND = 184;
    private static final int BOTH = 2 * LAND;

    WearEdges(Check check, Set<Integer> promises) {
        super(check, promises);
    }

    // ---- promise 20

    void p20Bushels() {
        says(20, "MILLING n bushels (1 to 60)");
        within(1, 60, OUTSIDE, 0, "mill", 1);
        due(0, "count", 6);
        due(BOTH, "mill", 1);
        due(59, "spot", 0, 0, 1, 1);
        due(59, "spot", 1, 7, 23, 1);
        due(59 * BOTH, "mill", 60);
        due(61, "count", 6);
        due(0, "spot", 0, 0, 1, 1);
        anew();
        due(60 * BOTH, "mill", 60);
        due(0, "spot", 1, 7, 23, 1);
        due(0, "mill", 1);
        due(0, "mill", 60);
        due(121, "count", 6);
    }

    void p20HighestOnly() {
        says(20, "those that are highest among these are one lower");
        told("chisel", 0, 0, 1, 1);
        told("chisel", 0, 7, 23, 2);
        due(BOTH - 2, "mill", 1);
        due(59, "spot", 0, 0, 1, 1);
        due(59, "spot", 0, 0, 2, 1);
        due(58, "spot", 0, 7, 23, 1);
        due(BOTH - 1, "mill", 1);
        due(58, "spot", 0, 0, 1, 1);
        due(BOTH, "mill", 1);
        due(57, "spot", 0, 7, 23, 1);
    }

    // all of the bed but one SPOT, at each end of RINGS and SECTORS, are 1 lower; its FURROW is at r in RING r
    void p20OneIsHighest() {
        says(20, "those that are highest among these");
        for (int[] spot : new int[][] {{0, 1}, {0, 23}, {1, 0}, {7, 0}, {7, 23}}) {
            anew();
            told("dress", 0, 1, 1, 1, 8);
            for (int i = 0; i < 192; i++) {
                boolean stays = i == spot[0] * 24 + spot[1] || i % 24 == i / 24;
                told("chisel", 0, i / 24, i % 24, stays ? 0 : 1);
            }
            due(LAND + 1, "mill", 1);
            due(59, "spot", 0, spot[0], spot[1], 1);
            due(BOTH, "mill", 1);
        }
    }

    void p20ByEachStone() {
        says(20, "of BED and RUNNER each by itself");
        told("pair", 2, 1);
        told("mill", 5);
        told("pair", 0, 1);
        due(BOTH, "mill", 1);
        due(59, "spot", 0, 3, 3, 1);
        due(54, "spot", 1, 3, 3, 1);
        due(55, "spot", 2, 3, 3, 1);
        due(60, "spot", 3, 3, 3, 1);
        told("pair", 1, 0);
        due(BOTH, "mill", 1);
        due(58, "spot", 0, 3, 3, 1);
        due(53, "spot", 1, 3, 3, 1);
    }

    void p20Cracks() {
        says(20, "with a CRACK two");
        told("crack", 0, 0, 1, 1);
        told("crack", 1, 7, 23, 1);
        told("crack", 1, 7, 0, 1);
        due(BOTH + 2, "mill", 1);
        due(58, "spot", 0, 0, 1, 1);
        due(58, "spot", 1, 7, 23, 1);
        due(40, "spot", 1, 7, 0, 1);
        // it is not the highest now
        due(BOTH - 2, "mill", 1);
        due(58, "spot", 0, 0, 1, 1);
        due(BOTH + 2, "mill", 1);
        told("crack", 0, 0, 1, 0);
        // its place is 56 now, that of the others 57
        due(BOTH - 2, "mill", 1);
        due(BOTH + 1, "mill", 1);
    }

    void p20NotBelowZero() {
        says(20, "with a CRACK two; 0 at least.");
        told("mill", 59);
        told("crack", 0, 4, 4, 1);
        told("crack", 1, 4, 4, 1);
        due(BOTH, "mill", 1);
        due(0, "spot", 0, 4, 4, 1);
        due(0, "mill", 1);
        due(0, "spot", 1, 4, 4, 1);
        due(8 * 40, "stuff", 0);
    }

    // its one SPOT above 0 is lowered, and then none is
    void p20OneAboveZero() {
        says(20, "0 at least.");
        told("mill", 58);
        told("chisel", 0, 0, 2, 1);
        told("crack", 0, 0, 2, 1);
        due(BOTH - 1, "mill", 1);
        due(BOTH, "mill", 1);
        due(0, "mill", 1);
    }

    // against FURROWS alone nothing is GROUND
    void p20GroundOnly() {
        says(20, "of all SPOTS that are GROUND at some TURN");
        allFurrow(1);
        due(0, "mill", 3);
        due(3, "count", 6);
        due(184 * 60 + 8 * 40, "stuff", 0);
        due(7680, "stuff", 1);
        told("pair", 1, 0);
        due(0, "mill", 1);
        told("dress", 1, 1, 1, 1, 0);
        told("dress", 0, 8, 3, 1, 0);
        due(0, "mill", 1);
        // half of it LAND: all LAND of each comes upon LAND of the other at some TURN
        told("dress", 0, 12, 1, 1, 24);
        due(LAND + 96, "mill", 1);
    }

    void p20RunnersGround() {
        says(20, "(A SPOT of the RUNNER is GROUND at a TURN, if it lies above one that is.)");
        told("dress", 0, 12, 1, 1, 0);
        due(96 + LAND, "mill", 1);
        due(59, "spot", 1, 0, 1, 1);
        due(59, "spot", 1, 7, 23, 1);
        due(40, "spot", 1, 7, 0, 1);
        allFurrow(0);
        due(0, "mill", 1);
        due(59, "spot", 1, 0, 1, 1);
    }

    void p20FurrowsStay() {
        says(20, "of all SPOTS that are GROUND at some TURN");
        told("mill", 60);
        due(40, "spot", 0, 0, 0, 1);
        due(40, "spot", 1, 7, 0, 1);
        due(0, "mill", 1);
        due(8 * 40, "stuff", 0);
        due(8 * 40, "stuff", 1);
    }

    // ---- promise 21

    void p21Line() {
        says(21, "SECTOR a's 0 to 7, SECTOR a and 12's 8 to 15");
        within(0, 23, UNKNOWN, 1, "staff", 0, 0, 0);
        due(0xFF00, "staff", 0, 0, 0);
        due(0x00FF, "staff", 0, 12, 0);
        due(0xFFFF, "staff", 0, 11, 0);
        told("chisel", 0, 0, 11, 1);
        told("chisel", 0, 7, 23, 1);
        due(0x7FFE, "staff", 0, 11, 0);
        due(0xFE7F, "staff", 0, 23, 0);
        due(0xFFFF, "staff", 0, 11, 1);
        due(0xFFFF, "staff", 1, 11, 0);
        due(0xFFFF, "staff", 0, 22, 0);
    }

    void p21Paint() {
        says(21, "THE STAFF with PAINT q (0 to 20)");
        within(0, 20, OUTSIDE, 2, "staff", 0, 0, 0);
        due(0xFF00, "staff", 0, 0, 19);
        due(0xFFFF, "staff", 0, 0, 20);
        told("chisel", 0, 3, 5, 20);
        told("chisel", 0, 4, 17, 21);
        due(0xEFF7, "staff", 0, 5, 19);
        due(0xEFFF, "staff", 0, 5, 20);
    }

    // of a line that is level, all; of one that is worn to 0 too
    void p21Highest() {
        says(21, "whose HEIGHT is that of the highest of them less q at least");
        for (int r = 0; r < 8; r++) {
            told("chisel", 2, r, 6, 60);
            told("chisel", 2, r, 18, 60);
        }
        due(0xFFFF, "staff", 2, 6, 0);
        due(0xFFFF, "staff", 2, 18, 20);
        told("chisel", 2, 2, 7, 60);
        due(0xFFFB, "staff", 2, 7, 20);
        // the highest is a FURROW
        told("mill", 60);
        due(0x00FF, "staff", 0, 0, 20);
        due(0xFF00, "staff", 0, 12, 0);
        for (int r = 0; r < 7; r++) {
            told("chisel", 0, r, 0, 60);
        }
        due(0x0080, "staff", 0, 0, 20);
        told("chisel", 0, 7, 0, 20);
        due(0xFFFF, "staff", 0, 0, 20);
        due(0x0080, "staff", 0, 0, 19);
        due(0x8000, "staff", 0, 12, 19);
    }

    // each SPOT of the line alone
    void p21OneIsHighest() {
        says(21, "whose HEIGHT is that of the highest of them less q at least");
        for (int i = 0; i < 16; i++) {
            anew();
            for (int j = 0; j < 16; j++) {
                told("chisel", 3, j % 8, 9 + 12 * (j / 8), i == j ? 9 : 10 + j % 2);
            }
            due(1 << i, "staff", 3, 9, 0);
            due(i < 8 ? 0x100 << i : 1 << i - 8, "staff", 3, 21, 0);
            due(0x5555 | 1 << i, "staff", 3, 9, 1);
            due(0xFFFF, "staff", 3, 9, 2);
        }
    }

    void p21Refusals() {
        says(21, "UNKNOWN: k, a (0 to 23); OUTSIDE.");
        within(0, 3, UNKNOWN, 0, "staff", 0, 0, 0);
        refused(UNKNOWN, "staff", 4, 0, 21);
        refused(UNKNOWN, "staff", 0, 24, -1);
    }

    // ---- promise 22

    void p22Above() {
        says(22, "LAND whose HEIGHT is above the least HEIGHT of LAND and q.");
        due(0, "high", 0, 0, 0);
        due(0, "high", 0, 0, 1);
        told("chisel", 0, 7, 23, 5);
        told("chisel", 0, 0, 1, 4);
        due(183, "high", 0, 0, 0);
        due(182 * 5 + 1, "high", 0, 0, 1);
        due(182, "high", 0, 1, 0);
        due(182 * 4, "high", 0, 1, 1);
        due(182, "high", 0, 4, 0);
        due(182, "high", 0, 4, 1);
        due(0, "high", 0, 5, 0);
        due(0, "high", 0, 5, 1);
    }

    void p22Paint() {
        says(22, "HIGH by q (0 to 60)");
        within(0, 60, OUTSIDE, 1, "high", 3, 0, 0);
        within(0, 1, OUTSIDE, 2, "high", 3, 0, 0);
        told("chisel", 3, 0, 1, 60);
        due(183, "high", 3, 0, 0);
        due(183 * 60, "high", 3, 0, 1);
        due(183, "high", 3, 59, 0);
        due(183, "high", 3, 59, 1);
        due(0, "high", 3, 60, 0);
        due(0, "high", 3, 60, 1);
    }

    void p22Land() {
        says(22, "the least HEIGHT of LAND");
        told("chisel", 0, 0, 0, 40);
        due(0, "high", 0, 0, 0);
        told("mill", 60);
        // FURROWS stand above all LAND now
        due(0, "high", 0, 0, 0);
        due(0, "high", 0, 0, 1);
        allFurrow(1);
        told("chisel", 1, 0, 0, 9);
        due(0, "high", 1, 0, 0);
        due(0, "high", 1, 0, 1);
        due(0, "high", 1, 60, 0);
    }

    void p22Refusals() {
        says(22, "UNKNOWN: k; OUTSIDE.");
        within(0, 3, UNKNOWN, 0, "high", 0, 0, 0);
        refused(UNKNOWN, "high", 4, 61, 2);
        refused(UNKNOWN, "high", -1, 0, -1);
    }

    // ---- promise 23

    void p23Level() {
        says(23, "All that is HIGH by q is cut to what is not: how many SPOTS.");
        told("chisel", 0, 7, 23, 5);
        told("chisel", 0, 0, 1, 4);
        due(0, "level", 0, 60);
        due(0, "level", 0, 5);
        due(184 * 60 - 9 + 8 * 40, "stuff", 0);
        due(182, "level", 0, 4);
        due(59, "spot", 0, 0, 2, 1);
        due(56, "spot", 0, 0, 1, 1);
        due(55, "spot", 0, 7, 23, 1);
        due(0, "level", 0, 4);
        due(183, "level", 0, 0);
        due(55, "spot", 0, 0, 1, 1);
        due(184 * 55 + 8 * 40, "stuff", 0);
        due(0, "high", 0, 0, 0);
        due(184 * 60 + 8 * 40, "stuff", 1);
    }

    void p23ToZero() {
        says(23, "HIGH by q is cut to what is not");
        told("chisel", 0, 7, 23, 60);
        due(0, "level", 0, 60);
        due(183, "level", 0, 59);
        due(183 * 59 + 8 * 40, "stuff", 0);
        due(183, "level", 0, 0);
        due(8 * 40, "stuff", 0);
        due(40, "spot", 0, 0, 0, 1);
    }

    void p23NoLand() {
        says(23, "All that is HIGH by q");
        allFurrow(3);
        told("chisel", 3, 0, 0, 40);
        due(0, "level", 3, 0);
        due(0, "level", 3, 60);
        due(191 * 40, "stuff", 3);
    }

    void p23Refusals() {
        says(23, "UNKNOWN: k; OUTSIDE.");
        told("chisel", 0, 0, 1, 7);
        within(0, 3, UNKNOWN, 0, "level", 0, 0);
        within(0, 60, OUTSIDE, 1, "level", 0, 0);
        refused(UNKNOWN, "level", 4, 61);
        due(183, "level", 0, 0);
    }

    // ---- promise 24

    void p24Feel() {
        says(24, "UNKNOWN: a, t; OUTSIDE: v is not 1 to 100; FULL.");
        within(0, 23, UNKNOWN, 0, "feel", 0, 0, 10);
        within(0, 23, UNKNOWN, 1, "feel", 0, 0, 10);
        within(1, 100, OUTSIDE, 2, "feel", 23, 23, 10);
        refused(UNKNOWN, "feel", 24, 0, 0);
        refused(UNKNOWN, "feel", 0, -1, 101);
        due(1, "feel", 0, 0, 1);
        due(2, "feel", 23, 23, 100);
        due(2, "count", 1);
    }

    void p24TwelveAtMost() {
        says(24, "HANGINGS that EXPLAIN all that was FELT (12 at most)");
        for (int i = 1; i <= 11; i++) {
            due(i, "feel", i, i, 10);
        }
        due(12, "feel", 0, 0, 10);
        refused(FULL, "feel", 0, 0, 10);
        refused(FULL, "feel", 23, 23, 100);
        refused(OUTSIDE, "feel", 0, 0, 0);
        refused(OUTSIDE, "feel", 0, 0, 101);
        refused(UNKNOWN, "feel", 24, 0, 0);
        refused(UNKNOWN, "feel", 0, 24, 1);
        due(12, "count", 1);
        due(12, "numb");
        due(1, "feel", 0, 0, 10);
    }

    // ---- promise 25

    void p25Numb() {
        says(25, "Nothing was FELT: how many there were.");
        due(0, "numb");
        told("feel", 0, 0, 100);
        due(0, "explains");
        due(1, "numb");
        due(0, "numb");
        due(961, "explains");
        for (int i = 0; i < 12; i++) {
            told("feel", 0, 0, 50);
        }
        due(12, "numb");
        due(0, "count", 1);
    }

    // ---- promise 26

    // kind 0 and twice 20 SIZES to 24 SECTORS
    void p26Nothing() {
        says(26, "How many HANGINGS EXPLAIN it.");
        due(961, "explains");
        told("hang", 2, 20, 23);
        told("gap", 60);
        due(961, "explains");
    }

    void p26OneLessOneMore() {
        says(26, "FELT at a SECTOR at a TURN: THE GAP at RING 7 was v, or one less, or one more.");
        for (int v = 8; v <= 12; v++) {
            told("numb");
            for (int a = 0; a < 24; a += 6) {
                told("feel", a, 0, v);
            }
            boolean near = v >= 9 && v <= 11;
            same("true, when " + v + " was felt", near ? 1 : 0, ask("explained", 0) == 0 ? 1 : 0);
        }
    }

    // above 60 there is 20 more straight on, and 19 beside it; 19 more by SIZE 19 too, and 18 beside that; 18 by SIZE 18
    void p26Greatest() {
        says(26, "with GAP as it is");
        told("gap", 60);
        told("feel", 0, 0, 82);
        due(0, "explains");
        due(NONE, "explained", 0);
        told("numb");
        told("feel", 0, 0, 81);
        due(2, "explains");
        due(1480, "explained", 0);
        due(2480, "explained", 1);
        due(NONE, "explained", 2);
        told("numb");
        told("feel", 0, 0, 79);
        due(14, "explains");
        int[] want = {1432, 1456, 1457, 1479, 1480, 1481, 1503, 2432, 2456, 2457, 2479, 2480, 2481, 2503, NONE};
        for (int i = 0; i < want.length; i++) {
            due(want[i], "explained", i);
        }
        told("gap", 58);
        due(2, "explains");
        due(1480, "explained", 0);
        told("gap", 57);
        due(0, "explains");
    }

    void p26All() {
        says(26, "HANGINGS that EXPLAIN all that was FELT");
        told("gap", 60);
        told("feel", 0, 0, 81);
        told("feel", 0, 23, 81);
        due(1, "explains");
        due(1480, "explained", 0);
        told("numb");
        told("feel", 0, 0, 81);
        told("feel", 23, 23, 81);
        due(1, "explains");
        due(2480, "explained", 0);
        told("numb");
        told("feel", 0, 0, 81);
        told("feel", 12, 0, 81);
        due(0, "explains");
        due(NONE, "explained", 0);
    }

    // whatever THE HANGING is now
    void p26OneAtLeast() {
        says(26, "THE GAP at RING 7 was v");
        told("gap", 1);
        told("feel", 12, 0, 1);
        told("feel", 0, 0, 22);
        due(2, "explains");
        told("hang", 1, 3, 3);
        due(2, "explains");
        due(1480, "explained", 0);
        due(2480, "explained", 1);
    }

    // ---- promise 27

    // asked at once, before explains() is
    void p27GapAsItIs() {
        says(27, "The i-th of them: 1000 times its kind, 24 times SIZE, and SECTOR");
        told("gap", 60);
        told("feel", 0, 0, 81);
        due(1480, "explained", 0);
        due(2480, "explained", 1);
        due(NONE, "explained", 2);
        told("gap", 59);
        due(NONE, "explained", 0);
        told("gap", 60);
        due(1480, "explained", 0);
        due(2, "explains");
    }

    // leaning by 1 to 12 the gap there would be 11, to 0 it would be 9
    void p27OrderOfThoseThatExplain() {
        says(27, "kind 0, then kind 1, then 2, by SIZE, then SECTOR.");
        told("feel", 0, 0, 10);
        told("feel", 12, 0, 9);
        due(0, "explained", 0);
        due(1024, "explained", 1);
        due(1035, "explained", 12);
        due(1037, "explained", 13);
        int last = 0;
        long count = ask("explains");
        int kinds = 0;
        for (int i = 1; i < count; i++) {
            int next = (int) ask("explained", i);
            kinds += next > 2000 && last < 2000 ? 1 : 0;
            same("the number of hanging " + i + " is greater than the one before", 1, next > last ? 1 : 0);
            last = next;
        }
        same("from kind 1 to 2 but once", 1, kinds);
        due(NONE, "explained", (int) count);
    }

    void p27Order() {
        says(27, "1000 times its kind, 24 times SIZE, and SECTOR; NONE.");
        due(0, "explained", 0);
        due(1024, "explained", 1);
        due(1047, "explained", 24);
        due(1048, "explained", 25);
        due(1503, "explained", 480);
        due(2024, "explained", 481);
        due(2047, "explained", 504);
        due(2048, "explained", 505);
        due(2503, "explained", 960);
        due(NONE, "explained", 961);
        due(NONE, "explained", -1);
        due(NONE, "explained", LEAST);
        due(NONE, "explained", MOST);
    }
}
