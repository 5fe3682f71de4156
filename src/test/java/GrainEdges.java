import java.util.Set;

/** A GRAIN's way: promises 18 and 19. */
final class GrainEdges extends Edges {
    GrainEdges(Check check, Set<Integer> promises) {
        super(check, promises);
    }

    private void dressPair(int leadOfBed, int leadOfRunner) {
        told("dress", 0, 1, 1, 1, leadOfBed);
        told("dress", 1, 1, 1, 1, leadOfRunner);
    }

    /** OUT, size, CUT, WARMTH, BEATS, RING, SECTOR. */
    private void grainIs(int a, int t, int size, int... want) {
        for (int what = 0; what < want.length; what++) {
            due(want[what], "grain", a, t, size, what);
        }
    }

    private void sizeIs(int want, int size) {
        due(want, "grain", 0, 0, size, 1);
    }

    // ---- promise 18

    void p18Refusals() {
        says(18, "UNKNOWN: a, t; OUTSIDE: size, what.");
        within(0, 23, UNKNOWN, 0, "grain", 0, 0, 50, 1);
        within(0, 23, UNKNOWN, 1, "grain", 0, 0, 50, 1);
        within(1, 100, OUTSIDE, 2, "grain", 0, 0, 50, 1);
        within(0, 6, OUTSIDE, 3, "grain", 23, 23, 50, 1);
        refused(UNKNOWN, "grain", 24, 0, 0, 0);
        refused(UNKNOWN, "grain", 0, -1, 101, 7);
        refused(OUTSIDE, "grain", 23, 23, 101, 7);
    }

    void p18ChangesNothing() {
        says(18, "A GRAIN of a size (1 to 100) begins at TURN t on the BED's SPOT (0, a).");
        long before = ask("digest");
        told("grain", 0, 0, 100, 0);
        due(before, "digest");
        grainIs(0, 0, 1, 1, 1, 8, 0, 1 + 7 * 24, 8, 0);
        grainIs(0, 0, 100, 1, 12, 8, 0, 1 + 7 * 24, 8, 0);
    }

    // 100 75 57 43 33 25 19 15 12; 8 6 5 4 3 and 3 again
    void p18ThreeQuarters() {
        says(18, "its size becomes three quarters, rounded up");
        allFurrow(0);
        allFurrow(1);
        told("gap", 1);
        sizeIs(1, 1);
        sizeIs(2, 2);
        sizeIs(3, 3);
        sizeIs(3, 4);
        sizeIs(3, 8);
        sizeIs(12, 100);
        sizeIs(12, 99);
        grainIs(5, 5, 100, 1, 12, 8, 0, 8, 8, 5);
    }

    // it is at 15 behind seven cuts
    void p18NotBelowTheGap() {
        says(18, "but not below THE GAP there");
        allFurrow(0);
        allFurrow(1);
        told("gap", 11);
        sizeIs(12, 100);
        told("gap", 12);
        sizeIs(12, 100);
        told("gap", 13);
        sizeIs(13, 100);
        told("gap", 60);
        sizeIs(60, 100);
        sizeIs(60, 61);
        // leaning: 22 25 27 30 32 35 37 40 straight on, so 100 75 57 43 33 32 and no more; against it 12 as ever
        told("gap", 20);
        told("hang", 1, 20, 0);
        sizeIs(32, 100);
        due(12, "grain", 12, 0, 100, 1);
    }

    void p18NotAboveWhatItWas() {
        says(18, "(nor above what it was)");
        allFurrow(0);
        allFurrow(1);
        told("gap", 60);
        sizeIs(60, 60);
        sizeIs(59, 59);
        sizeIs(1, 1);
        due(8, "grain", 0, 0, 1, 2);
    }

    void p18FirstSector() {
        says(18, "to the first of SECTORS a, a and 1, a less 1 that is FURROW on the BED there");
        allFurrow(1);
        allFurrow(0);
        grainIs(9, 0, 1, 1, 1, 8, 0, 8, 8, 9);
        // the bed's even SECTORS in RING 0, odd ones in RING 1: both neighbours are FURROW
        told("dress", 0, 12, 1, 1, 8);
        grainIs(0, 0, 1, 1, 1, 8, 0, 8, 8, 7);
        // the bed's SECTORS r less 1 and r: a and 1 alone, then a and 1 before a less 1
        told("dress", 0, 1, 2, 23, 8);
        grainIs(0, 0, 1, 1, 1, 8, 0, 8, 8, 6);
    }

    void p18SectorsGoRoundAsItIsCut() {
        says(18, "SECTORS a, a and 1, a less 1");
        allFurrow(1);
        // 23 to RING 1's 0
        told("dress", 0, 1, 2, 23, 8);
        grainIs(23, 0, 1, 1, 1, 8, 0, 8, 8, 6);
        // 0 to RING 1's 23
        told("dress", 0, 1, 1, 1, -8);
        grainIs(0, 0, 1, 1, 1, 8, 0, 8, 8, 17);
    }

    // two off in each RING: the RUNNER's FURROWS then drive it there, a SECTOR each BEAT
    void p18ElseTheSame() {
        says(18, "that is FURROW on the BED there, else a;");
        allFurrow(1);
        told("dress", 0, 1, 1, 1, 16);
        grainIs(0, 0, 1, 1, 1, 8, 0, 8 + 7 * 2, 8, 14);
        told("dress", 0, 1, 1, 1, -16);
        grainIs(0, 0, 1, 1, 1, 8, 0, 8 + 7 * 22, 8, 10);
    }

    void p18BedAlone() {
        says(18, "BED FURROW alone: nothing");
        allFurrow(0);
        // in each RING it waits for the RUNNER's FURROW, a whole round
        grainIs(5, 5, 100, 1, 12, 8, 0, 1 + 7 * 24, 8, 5);
        grainIs(5, 6, 100, 1, 12, 8, 0, 24 + 7 * 24, 8, 5);
        grainIs(0, 23, 1, 1, 1, 8, 0, 2 + 7 * 24, 8, 0);
    }

    void p18RunnerAlone() {
        says(18, "RUNNER's FURROW alone: it goes to SECTOR a and 1");
        allFurrow(1);
        grainIs(23, 0, 50, 1, 10, 8, 0, 1 + 8, 8, 0);
        grainIs(1, 1, 50, 1, 10, 8, 0, 23 + 8, 8, 0);
        grainIs(12, 23, 50, 1, 10, 8, 0, 12 + 8, 8, 0);
    }

    // from 22 at turn 1 it comes to 23 at turn 3, to 0 at turn 5: GROUND at turns 1 to 4
    void p18Ground() {
        says(18, "GROUND: if its size is above THE GAP, the size is one less, and WARMTH one more");
        due(4, "grain", 22, 1, 100, 3);
        grainIs(22, 1, 10, 1, 10, 8, 0, 24 + 7 * 24, 8, 0);
        grainIs(22, 1, 11, 1, 10, 8, 1, 24 + 7 * 24, 8, 0);
        due(4, "grain", 22, 1, 14, 3);
        due(3, "grain", 22, 1, 13, 3);
        due(9, "grain", 22, 1, 9, 1);
        due(0, "grain", 22, 1, 9, 3);
        // 16 less 4 is 12, then cut to 10, the gap; with the gap 1: 12 9 7 6 5 4 3 3 3
        due(10, "grain", 22, 1, 16, 1);
        told("gap", 1);
        due(3, "grain", 22, 1, 16, 1);
    }

    // at an even turn it goes on from 23 to the bed's FURROW at 0, at an odd one it stays
    void p18GroundAtEvenTurns() {
        says(18, "it goes to SECTOR a and 1, if t is even");
        due(1, "grain", 23, 0, 100, 3);
        due(2, "grain", 23, 1, 100, 3);
        due(1, "grain", 23, 2, 100, 3);
        due(2, "grain", 23, 21, 100, 3);
        due(1, "grain", 23, 22, 100, 3);
        grainIs(23, 1, 1, 1, 1, 8, 0, 24 + 7 * 24, 8, 0);
        grainIs(23, 2, 1, 1, 1, 8, 0, 23 + 7 * 24, 8, 0);
    }

    // from 22 at turn 23, which is odd: GROUND at turns 23, 0, 1, 2
    void p18TurnsGoRound() {
        says(18, "Then t is one more (modulo 24).");
        due(4, "grain", 22, 23, 100, 3);
        grainIs(22, 23, 1, 1, 1, 8, 0, 1 + 24 + 1 + 7 * 24, 8, 0);
        grainIs(23, 23, 1, 1, 1, 8, 0, 1 + 1 + 7 * 24, 8, 0);
    }

    void p18Out() {
        says(18, "Behind RING 7 it is OUT");
        allFurrow(0);
        allFurrow(1);
        grainIs(0, 0, 1, 1, 1, 8, 0, 8, 8, 0);
        grainIs(23, 23, 100, 1, 12, 8, 0, 8, 8, 23);
    }

    // both lead 3 back in each RING: behind a cut the RUNNER's FURROW needs 18 BEATS to the BED's and is ahead of the
    // GRAIN, so that it takes it along only the next time round: 42 BEATS a RING, and 6 or 7 in RING 0
    void p18ThreeHundredBeats() {
        says(18, "behind 300 BEATS it ends");
        dressPair(-24, -24);
        grainIs(0, 19, 1, 1, 1, 8, 0, 6 + 7 * 42, 8, 3);
        grainIs(0, 18, 1, 0, 1, 7, 0, 300, 7, 3);
        grainIs(0, 20, 1, 1, 1, 8, 0, 5 + 7 * 42, 8, 3);
        grainIs(0, 1, 1, 0, 1, 7, 0, 300, 7);
    }

    // ---- promise 19

    void p19Refusals() {
        says(19, "OUTSIDE: size, what; STATE: it was done 40 times ever.");
        within(1, 100, OUTSIDE, 0, "grist", 50, 1);
        within(0, 3, OUTSIDE, 1, "grist", 50, 1);
        due(0, "count", 4);
        due(96, "grist", 1, 0);
        due(1, "count", 4);
    }

    void p19FortyTimes() {
        says(19, "STATE: it was done 40 times ever.");
        for (int i = 1; i < 40; i++) {
            due(96, "grist", i, 0);
        }
        refused(OUTSIDE, "grist", 0, 0);
        refused(OUTSIDE, "grist", 1, 4);
        due(39, "count", 4);
        told("pair", 2, 3);
        due(96, "grist", 100, 0);
        due(40, "count", 4);
        for (int what = 0; what < 4; what++) {
            refused(STATE, "grist", 50, what);
        }
        told("pair", 0, 1);
        told("dress", 0, 12, 2, 1, 0);
        refused(STATE, "grist", 1, 0);
        refused(OUTSIDE, "grist", 101, 0);
        refused(OUTSIDE, "grist", 1, -1);
        due(40, "count", 4);
    }

    void p19All() {
        says(19, "what = 0 how many come OUT, 1 the sizes of these together");
        allFurrow(0);
        allFurrow(1);
        told("gap", 1);
        due(96, "grist", 100, 0);
        due(96 * 12, "grist", 100, 1);
        due(0, "grist", 100, 2);
        due(12, "grist", 100, 3);
        due(96, "grist", 1, 1);
        due(1, "grist", 1, 3);
    }

    // one begins under the crossing of RING 0 and comes OUT behind 295 BEATS; all others need more than 300
    void p19OneComesOut() {
        says(19, "what = 0 how many come OUT, 1 the sizes of these together");
        dressPair(-24, -24);
        due(1, "grist", 1, 0);
        due(1, "grist", 1, 1);
        due(1, "grist", 1, 3);
        due(1, "grist", 9, 0);
        due(9, "grist", 9, 1);
        due(9, "grist", 9, 3);
    }

    // lead 3 and 2 back: 43 BEATS a RING. WARMTH: all but the 4 on the BED's FURROW, which is cut to 10 at once, and the
    // 3 that the RUNNER's FURROW drives there
    void p19NoneComesOut() {
        says(19, "2 WARMTH of all GRAINS, 3 the greatest size that comes OUT (0: none).");
        dressPair(-24, -16);
        due(0, "grist", 11, 0);
        due(0, "grist", 11, 1);
        due(89, "grist", 11, 2);
        due(0, "grist", 11, 3);
        due(0, "grist", 10, 2);
    }

    // all come OUT, of sizes unlike; or 40 do, and some that do not are larger than these
    void p19SectorsAndTurns() {
        says(19, "GRAINS of a size from all SECTORS and TURNS 0, 6, 12, 18");
        gristIsOfGrains(new int[] {2, 7, 9, 2, 20, 17}, 11, 22, 4);
        int inside = gristIsOfGrains(new int[] {1, 7, -14, 1, 4, -21}, 16, 13, 21);
        due(40, "grist", 90, 0);
        due(5, "grist", 90, 3);
        same("the largest that does not come OUT", 7, inside);
    }

    private int gristIsOfGrains(int[] dressings, int size, int sector, int gap) {
        int[] want = new int[4];
        int inside = 0;
        for (int t = 0; t < 24; t += 6) {
            dressLeaning(dressings, size, sector, gap);
            for (int a = 0; a < 24; a++) {
                int out = (int) ask("grain", a, t, 90, 0);
                int left = (int) ask("grain", a, t, 90, 1);
                want[0] += out;
                want[1] += out * left;
                want[2] += (int) ask("grain", a, t, 90, 3);
                want[3] = Math.max(want[3], out * left);
                inside = Math.max(inside, (1 - out) * left);
            }
        }
        dressLeaning(dressings, size, sector, gap);
        for (int what = 0; what < 4; what++) {
            due(want[what], "grist", 90, what);
        }
        return inside;
    }

    private void dressLeaning(int[] dressings, int size, int sector, int gap) {
        anew();
        told("dress", 0, 1, dressings[0], dressings[1], dressings[2]);
        told("dress", 1, 1, dressings[3], dressings[4], dressings[5]);
        told("hang", 1, size, sector);
        told("gap", gap);
    }
}
