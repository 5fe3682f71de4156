/** One method a promise of the document, each with answers worked out by hand. */
public final class PromisesTest {
    private static final int NONE = -1, UNKNOWN = -101, OUTSIDE = -102, STATE = -103, FULL = -104;
    private static final int LEAST = Integer.MIN_VALUE, MOST = Integer.MAX_VALUE;

    private final Check check = new Check();

    private void due(String call, long want, long got) {
        check.due(call, want, got);
    }

    // a stone of land alone cannot be dressed, one of furrows alone can: 24 of them
    private static void dressAllFurrow(StoneFurrows x, int k) {
        x.dress(k, 12, 2, 1, 0);
    }

    private void promise1NewObject() {
        StoneFurrows x = new StoneFurrows();
        due("NONE", NONE, StoneFurrows.NONE);
        due("UNKNOWN", UNKNOWN, StoneFurrows.UNKNOWN);
        due("OUTSIDE", OUTSIDE, StoneFurrows.OUTSIDE);
        due("STATE", STATE, StoneFurrows.STATE);
        due("FULL", FULL, StoneFurrows.FULL);
        for (int k = 0; k < 4; k++) {
            due("1: stuff " + k, 184 * 60 + 8 * 40, x.stuff(k));
            for (int r = 0; r < 8; r++) {
                due("1: furrow at 0", 1, x.spot(k, r, 0, 0));
                due("1: land at 1", 0, x.spot(k, r, 1, 0));
                due("1: land at 23", 0, x.spot(k, r, 23, 0));
                due("1: no crack", 0, x.spot(k, r, 5, 2));
            }
        }
        int[] counts = {0, 0, 0, 1, 0, 0, 0, 0, 1};
        for (int what = 0; what < 9; what++) {
            due("1: count " + what, counts[what], x.count(what));
        }
        due("1: least gap", 10, x.gaps(0));
        due("1: greatest gap", 10, x.gaps(1));
        due("1: gap", 10, x.gap(10));
        due("1: dressers", 1, x.dressers(1));
        due("1: no road", 0, x.road(0, 5, 0));
        due("1: no mill", 0, x.free(0));
        due("1: no plan", NONE, x.plan());
    }

    private void promise2Dress() {
        StoneFurrows x = new StoneFurrows();
        due("2: one harp, one furrow", 8, x.dress(0, 1, 1, 24, 0));
        due("2: pitch 24 comes round", 8, x.dress(0, 1, 4, 24, 0));
        due("2: pitch 12 comes round", 16, x.dress(0, 1, 4, 12, 0));
        due("2: four furrows", 32, x.dress(0, 1, 4, 1, 0));
        due("2: all furrow", 192, x.dress(0, 12, 2, 1, 0));
        int[] harps = {1, 2, 3, 4, 6, 8, 12};
        for (int h : harps) {
            due("2: harps " + h, 8 * h, x.dress(1, h, 1, 1, 0));
            due("2: second harp of " + h, 1, x.spot(1, 3, 24 / h % 24, 0));
        }
        due("2: lead of -1", 8, x.dress(2, 1, 1, 1, -1));
        due("2: lead of -1 at ring 0", 1, x.spot(2, 0, 0, 0));
        due("2: lead of -1 is rounded down", 1, x.spot(2, 1, 23, 0));
        due("2: lead of -1 at the rim", 1, x.spot(2, 7, 23, 0));
        due("2: lead of 9", 8, x.dress(2, 1, 1, 1, 9));
        due("2: 9 by 8", 1, x.spot(2, 1, 1, 0));
        due("2: 63 by 8", 1, x.spot(2, 7, 7, 0));
        x.chisel(3, 0, 0, 60);
        x.crack(3, 1, 1, true);
        due("2: anew", 8, x.dress(3, 1, 1, 1, 0));
        due("2: furrow is 40 again", 40, x.spot(3, 0, 0, 1));
        due("2: land is 60", 60, x.spot(3, 1, 1, 1));
        due("2: crack is gone", 0, x.spot(3, 1, 1, 2));
        long before = x.digest();
        due("2: no stone 4", UNKNOWN, x.dress(4, 0, 0, 0, 99));
        due("2: no stone -1", UNKNOWN, x.dress(-1, 1, 1, 1, 0));
        for (int h : new int[] {0, 5, 7, 9, 10, 11, 13, 24, -1, LEAST, MOST}) {
            due("2: harps " + h, OUTSIDE, x.dress(0, h, 1, 1, 0));
        }
        due("2: m 0", OUTSIDE, x.dress(0, 1, 0, 1, 0));
        due("2: m 5", OUTSIDE, x.dress(0, 1, 5, 1, 0));
        due("2: p 0", OUTSIDE, x.dress(0, 1, 1, 0, 0));
        due("2: p 25", OUTSIDE, x.dress(0, 1, 1, 25, 0));
        due("2: l -25", OUTSIDE, x.dress(0, 1, 1, 1, -25));
        due("2: l 25", OUTSIDE, x.dress(0, 1, 1, 1, 25));
        due("2: refusals change nothing", before, x.digest());
        due("2: l -24", 8, x.dress(0, 1, 1, 1, -24));
        due("2: l 24", 8, x.dress(0, 1, 1, 1, 24));
        due("2: l 24 at ring 7", 1, x.spot(0, 7, 21, 0));
    }

    private void promise3Spot() {
        StoneFurrows x = new StoneFurrows();
        due("3: furrow", 1, x.spot(0, 0, 0, 0));
        due("3: furrow's height", 40, x.spot(0, 7, 0, 1));
        due("3: land", 0, x.spot(3, 7, 23, 0));
        due("3: land's height", 60, x.spot(3, 7, 23, 1));
        x.crack(3, 7, 23, true);
        due("3: crack", 1, x.spot(3, 7, 23, 2));
        due("3: k", UNKNOWN, x.spot(4, 0, 0, 9));
        due("3: k", UNKNOWN, x.spot(-1, 0, 0, 0));
        due("3: r", UNKNOWN, x.spot(0, 8, 0, 0));
        due("3: r", UNKNOWN, x.spot(0, -1, 0, 0));
        due("3: a", UNKNOWN, x.spot(0, 0, 24, 0));
        due("3: a", UNKNOWN, x.spot(0, 0, -1, 0));
        due("3: what", OUTSIDE, x.spot(0, 0, 0, 3));
        due("3: what", OUTSIDE, x.spot(0, 0, 0, -1));
    }

    private void promise4Chisel() {
        StoneFurrows x = new StoneFurrows();
        due("4: none off", 60, x.chisel(0, 2, 5, 0));
        due("4: 1 off", 59, x.chisel(0, 2, 5, 1));
        due("4: 58 off", 1, x.chisel(0, 2, 5, 58));
        due("4: to 0 at least", 0, x.chisel(0, 2, 5, 60));
        due("4: still land", 0, x.spot(0, 2, 5, 0));
        due("4: its height stays", 0, x.spot(0, 2, 5, 1));
        due("4: a furrow too", 37, x.chisel(0, 2, 0, 3));
        due("4: no other spot", 60, x.spot(1, 2, 5, 1));
        long before = x.digest();
        due("4: k", UNKNOWN, x.chisel(4, 0, 0, 61));
        due("4: r", UNKNOWN, x.chisel(0, 8, 0, 1));
        due("4: a", UNKNOWN, x.chisel(0, 0, 24, 1));
        due("4: d 61", OUTSIDE, x.chisel(0, 0, 1, 61));
        due("4: d -1", OUTSIDE, x.chisel(0, 0, 1, -1));
        due("4: refusals change nothing", before, x.digest());
    }

    private void promise5Crack() {
        StoneFurrows x = new StoneFurrows();
        due("5: there was none", 0, x.crack(1, 4, 7, true));
        due("5: there was one", 1, x.crack(1, 4, 7, true));
        due("5: told", 1, x.spot(1, 4, 7, 2));
        due("5: there was one still", 1, x.crack(1, 4, 7, false));
        due("5: there is none", 0, x.crack(1, 4, 7, false));
        due("5: k", UNKNOWN, x.crack(4, 4, 7, true));
        due("5: r", UNKNOWN, x.crack(1, 8, 7, true));
        due("5: a", UNKNOWN, x.crack(1, 4, -1, true));
        due("5: k least", UNKNOWN, x.crack(LEAST, LEAST, LEAST, true));
    }

    private void promise6Leads() {
        StoneFurrows x = new StoneFurrows();
        due("6: straight", 1, x.leads(0, 0));
        due("6: straight", 0, x.leads(0, 1));
        x.dress(0, 2, 1, 1, 8);
        due("6: one sector a ring", 2, x.leads(0, 0));
        x.dress(0, 2, 1, 1, -8);
        due("6: one sector less a ring", 2, x.leads(0, 0));
        x.dress(0, 1, 1, 1, 16);
        due("6: two sectors a ring", 0, x.leads(0, 0));
        due("6: two sectors a ring do not", 1, x.leads(0, 1));
        x.dress(0, 1, 1, 1, 9);
        due("6: nine by eight is never two at once", 1, x.leads(0, 0));
        x.dress(0, 1, 1, 1, -9);
        due("6: minus nine by eight is two at first", 0, x.leads(0, 0));
        due("6: minus nine by eight", 1, x.leads(0, 1));
        // both ways go down two a ring, so that only the neighbour's way helps, and only once
        x.dress(0, 1, 2, 1, 16);
        due("6: two beside each other, two sectors a ring", 0, x.leads(0, 0));
        x.dress(0, 12, 1, 1, 16);
        due("6: the next harp's furrow lies near", 12, x.leads(0, 0));
        due("6: k", UNKNOWN, x.leads(4, 5));
        due("6: what", OUTSIDE, x.leads(0, 2));
        due("6: what", OUTSIDE, x.leads(0, -1));
    }

    private void promise7Is() {
        StoneFurrows x = new StoneFurrows();
        due("7: alike", 0, x.is(0, 1));
        due("7: itself", 0, x.is(2, 2));
        // stone 0: 0 and 1; stone 1: 0 and 23, which is 0 turned
        x.dress(0, 1, 2, 1, 0);
        x.dress(1, 1, 2, 23, 0);
        due("7: (r, a) is furrow just if (r, a + 23) is", 23, x.is(0, 1));
        due("7: and the other way", 1, x.is(1, 0));
        due("7: another number of furrows", NONE, x.is(0, 2));
        // a lead has a hand: its mirror is no turn of it
        x.dress(0, 1, 2, 3, 8);
        x.dress(1, 1, 2, 3, -8);
        due("7: 0 and 3 leading up, s - a is 0 and 3 leading down for s = 3", 103, x.is(0, 1));
        due("7: back", 103, x.is(1, 0));
        x.dress(2, 1, 1, 1, 0);
        x.dress(3, 1, 1, 1, 8);
        due("7: no way", NONE, x.is(2, 3));
        x.chisel(2, 3, 3, 9);
        x.dress(3, 1, 1, 1, 0);
        due("7: heights are nothing to it", 0, x.is(2, 3));
        due("7: k", UNKNOWN, x.is(4, 0));
        due("7: j", UNKNOWN, x.is(0, -1));
    }

    private void promise8Stuff() {
        StoneFurrows x = new StoneFurrows();
        due("8: at first", 11360, x.stuff(3));
        x.chisel(3, 0, 5, 7);
        due("8: chiselled", 11353, x.stuff(3));
        dressAllFurrow(x, 2);
        due("8: all furrow", 192 * 40, x.stuff(2));
        due("8: k", UNKNOWN, x.stuff(4));
        due("8: k", UNKNOWN, x.stuff(-1));
    }

    private void promise9Pair() {
        StoneFurrows x = new StoneFurrows();
        dressAllFurrow(x, 2);
        dressAllFurrow(x, 3);
        due("9: 0 and 1", 8, x.crossings(0));
        due("9: becomes", 1, x.pair(3, 2));
        due("9: the bed", 3, x.count(7));
        due("9: the runner", 2, x.count(8));
        due("9: other crossings", 192, x.crossings(0));
        due("9: the same", OUTSIDE, x.pair(1, 1));
        due("9: b", UNKNOWN, x.pair(4, 4));
        due("9: r", UNKNOWN, x.pair(0, -1));
        due("9: stays", 3, x.count(7));
        due("9: the two of it changed", 1, x.pair(2, 3));
        due("9: the bed", 2, x.count(7));
    }

    private void promise10Crossings() {
        StoneFurrows x = new StoneFurrows();
        due("10: 0 above 0", 8, x.crossings(0));
        due("10: 1 above 0", 0, x.crossings(1));
        x.dress(0, 1, 2, 1, 0);
        x.dress(1, 1, 2, 2, 0);
        // bed 0, 1; runner 0, 2: above a lies t - a
        due("10: t 0: 0 - 0", 8, x.crossings(0));
        due("10: t 1: 1 - 1", 8, x.crossings(1));
        due("10: t 2: 2 - 0", 8, x.crossings(2));
        due("10: t 3: 3 - 1", 8, x.crossings(3));
        due("10: t 4", 0, x.crossings(4));
        due("10: t 23", 0, x.crossings(23));
        due("10: t 24", UNKNOWN, x.crossings(24));
        due("10: t -1", UNKNOWN, x.crossings(-1));
    }

    private void promise11Round() {
        StoneFurrows x = new StoneFurrows();
        due("11: together", 8, x.round(0));
        due("11: least", 0, x.round(1));
        due("11: greatest", 8, x.round(2));
        due("11: first", 0, x.round(3));
        due("11: ground: 24 turns of 22, but one of 23, by 8 rings", 8 * (23 * 22 + 23), x.round(4));
        x.dress(0, 1, 1, 1, 0);
        x.dress(1, 1, 1, 1, 24);
        // the runner's furrow stands at 3 r, so each ring crosses at its own turn
        due("11: least of eight turns", 1, x.round(2));
        x.dress(1, 1, 2, 3, 21);
        // now 0 2 5 7 10 13 15 18 and these and 3: turn 5 is the first that has two
        due("11: greatest", 2, x.round(2));
        due("11: first with it", 5, x.round(3));
        due("11: together", 16, x.round(0));
        dressAllFurrow(x, 1);
        due("11: all furrow, least", 8, x.round(1));
        due("11: all furrow, no ground", 0, x.round(4));
        due("11: what 5", OUTSIDE, x.round(5));
        due("11: what -1", OUTSIDE, x.round(-1));
    }

    private void promise12Outward() {
        StoneFurrows x = new StoneFurrows();
        due("12: no crossing next", 0, x.outward(0));
        // bed at 0 all along, runner at r: a ring later a turn later
        x.dress(1, 1, 1, 1, 8);
        due("12: out", 1, x.outward(0));
        due("12: out", 1, x.outward(6));
        due("12: none behind the rim", 0, x.outward(7));
        due("12: none", 0, x.outward(23));
        x.dress(1, 1, 1, 1, -8);
        // runner at -r: ring r crosses at turn 24 - r, so it comes in
        due("12: in at 17 from 7 to 6", -1, x.outward(17));
        due("12: in at 23 from 1 to 0", -1, x.outward(23));
        due("12: none before the eye", 0, x.outward(0));
        dressAllFurrow(x, 0);
        dressAllFurrow(x, 1);
        due("12: all of rings 0 to 6 out, of 1 to 7 in", 0, x.outward(5));
        // bed all furrow, runner at 0 and leading 8: ring r crosses at a = t - r, then at t + 1 - r
        x.dress(1, 1, 1, 1, 8);
        // out from (r, t - r): ring r + 1 has t + 1 - r - 1 = t - r; in: ring r - 1 has t + 1 - r + 1, two off
        due("12: out along", 7, x.outward(23));
        x.dress(1, 1, 1, 1, 0);
        // out and in alike: the next crossing is a + 1 in each ring
        due("12: a + 1 counts for both", 0, x.outward(3));
        x.dress(1, 1, 1, 1, -8);
        // (r, t + r): out: ring r + 1 has t + r + 2, two off; in: ring r - 1 has t + r
        due("12: in along", -7, x.outward(23));
        due("12: t 24", -1000, x.outward(24));
        due("12: t -1", -1000, x.outward(-1));
        due("12: t least", -1000, x.outward(LEAST));
    }

    private void promise13Drift() {
        StoneFurrows x = new StoneFurrows();
        due("13: none", 0, x.drift());
        x.dress(1, 1, 1, 1, 8);
        due("13: out", 7, x.drift());
        x.dress(1, 1, 1, 1, -8);
        due("13: in", -7, x.drift());
        dressAllFurrow(x, 0);
        due("13: in along at all turns", -7 * 24, x.drift());
        // one crossing a ring, at turn r or -r, in sector r times a step
        driftIs(x, 8, 0, 7);
        driftIs(x, -8, 16, 7);
        driftIs(x, 16, -8, 0);
        driftIs(x, -16, 24, 0);
        driftIs(x, 8, -16, -7);
        driftIs(x, -8, 0, -7);
    }

    private void driftIs(StoneFurrows x, int leadOfBed, int leadOfRunner, int want) {
        x.dress(0, 1, 1, 1, leadOfBed);
        x.dress(1, 1, 1, 1, leadOfRunner);
        due("13: leads " + leadOfBed + " and " + leadOfRunner, want, x.drift());
    }

    private void promise14Gap() {
        StoneFurrows x = new StoneFurrows();
        due("14: was 10", 10, x.gap(60));
        due("14: was 60", 60, x.gap(1));
        due("14: 0", OUTSIDE, x.gap(0));
        due("14: 61", OUTSIDE, x.gap(61));
        due("14: was 1 still", 1, x.gap(2));
        due("14: it is the gap", 2, x.gapAt(3, 3, 3));
    }

    private void promise15Hang() {
        StoneFurrows x = new StoneFurrows();
        due("15: leaning", 1, x.hang(1, 20, 23));
        due("15: bent", 1, x.hang(2, 1, 0));
        long before = x.digest();
        due("15: kind 3", OUTSIDE, x.hang(3, 1, 0));
        due("15: kind -1", OUTSIDE, x.hang(-1, 0, 0));
        due("15: true with a size", OUTSIDE, x.hang(0, 1, 0));
        due("15: true with a sector", OUTSIDE, x.hang(0, 0, 1));
        due("15: leaning by 0", OUTSIDE, x.hang(1, 0, 0));
        due("15: bent by 21", OUTSIDE, x.hang(2, 21, 0));
        due("15: to 24", OUTSIDE, x.hang(1, 1, 24));
        due("15: to -1", OUTSIDE, x.hang(2, 1, -1));
        due("15: refusals change nothing", before, x.digest());
        due("15: true", 1, x.hang(0, 0, 0));
        due("15: it is true", 10, x.gaps(1));
    }

    private void promise16GapAt() {
        StoneFurrows x = new StoneFurrows();
        int[] slopes = {100, 97, 87, 71, 50, 26, 0, -26, -50, -71, -87, -97, -100, -97, -87, -71, -50, -26, 0, 26,
            50, 71, 87, 97};
        x.gap(30);
        x.hang(1, 20, 5);
        for (int a = 0; a < 24; a++) {
            int slope = slopes[(a - 5 + 24) % 24];
            due("16: leaning, rim, " + a, 30 + Math.floorDiv(slope, 5), x.gapAt(7, a, 13));
            due("16: leaning, eye, " + a, 30 + Math.floorDiv(slope, 40), x.gapAt(0, a, 2));
        }
        x.hang(2, 20, 5);
        for (int t = 0; t < 24; t++) {
            int slope = slopes[(11 - 5 - t + 48) % 24];
            due("16: bent, rim, " + t, 30 + Math.floorDiv(slope, 5), x.gapAt(7, 11, t));
        }
        for (int size = 1; size <= 20; size++) {
            gapsOfSize(size, slopes);
        }
        x.gap(1);
        due("16: 1 at least", 1, x.gapAt(7, 17, 0));
        x.hang(1, 1, 0);
        due("16: 1 and 1", 2, x.gapAt(7, 0, 0));
        due("16: 1 and less than 1", 1, x.gapAt(7, 1, 0));
        x.gap(10);
        due("16: rounded down below 0", 9, x.gapAt(0, 7, 0));
        due("16: r", UNKNOWN, x.gapAt(8, 0, 0));
        due("16: r", UNKNOWN, x.gapAt(-1, 0, 0));
        due("16: a", UNKNOWN, x.gapAt(0, 24, 0));
        due("16: t", UNKNOWN, x.gapAt(0, 0, 24));
        due("16: t", UNKNOWN, x.gapAt(0, 0, LEAST));
    }

    private void gapsOfSize(int size, int[] slopes) {
        StoneFurrows x = new StoneFurrows();
        x.gap(40);
        x.hang(1, size, 0);
        for (int i = 0; i < 8 * 24; i++) {
            int more = Math.floorDiv(size * slopes[i % 24] * (i / 24 + 1), 800);
            due("16: SIZE " + size + ", spot " + i, 40 + more, x.gapAt(i / 24, i % 24, 0));
        }
    }

    private void promise17Gaps() {
        StoneFurrows x = new StoneFurrows();
        x.gap(30);
        x.hang(1, 20, 7);
        due("17: least", 10, x.gaps(0));
        due("17: greatest", 50, x.gaps(1));
        x.hang(2, 3, 7);
        due("17: least, bent", 27, x.gaps(0));
        due("17: greatest, bent", 33, x.gaps(1));
        x.gap(2);
        due("17: 1 at least", 1, x.gaps(0));
        due("17: what", OUTSIDE, x.gaps(2));
        due("17: what", OUTSIDE, x.gaps(-1));
    }

    private void grainIs(StoneFurrows x, int a, int t, int size, int... want) {
        for (int what = 0; what < want.length; what++) {
            due("18: grain " + a + " " + t + " " + size + " " + what, want[what], x.grain(a, t, size, what));
        }
    }

    private void promise18Grain() {
        StoneFurrows x = new StoneFurrows();
        dressAllFurrow(x, 0);
        dressAllFurrow(x, 1);
        x.gap(1);
        // 100 75 57 43 33 25 19 15 12: eight cuts, each rounded up
        grainIs(x, 3, 0, 100, 1, 12, 8, 0, 8, 8, 3);
        x.gap(20);
        // 100 75 57 43 33 25 20 20 20: not below the gap
        grainIs(x, 3, 0, 100, 1, 20, 8, 0, 8, 8, 3);
        // below the gap it stays as it was
        grainIs(x, 23, 23, 7, 1, 7, 8, 0, 8, 8, 23);
        // bed furrow alone at all times but t = a: the grain waits in its ring for the runner's furrow
        x.dress(1, 1, 1, 1, 0);
        x.gap(1);
        grainIs(x, 5, 5, 100, 1, 12, 8, 0, 1 + 7 * 24, 8, 5);
        grainIs(x, 5, 6, 100, 1, 12, 8, 0, 8 * 24, 8, 5);
        // runner's furrow alone: a and t go on together, so that it never meets the bed's furrow at 0 at all
        x.dress(0, 1, 1, 1, 0);
        dressAllFurrow(x, 1);
        grainIs(x, 20, 3, 100, 1, 12, 8, 0, 4 + 8, 8, 0);
        grainIs(x, 1, 3, 100, 1, 12, 8, 0, 23 + 8, 8, 0);
        // GROUND from turn 1 to 17, for at turn 18 it is at 18; then the runner's furrow drives it to 0, where it is cut;
        // a whole round for each ring more: 83 63 48 36 27 21 16 12 and 10, the gap
        x.dress(1, 1, 1, 1, 0);
        x.gap(10);
        grainIs(x, 10, 1, 100, 1, 10, 8, 17, 17 + 6 + 1 + 7 * 24, 8, 0);
        grainIs(x, 10, 1, 10, 1, 10, 8, 0, 17 + 6 + 1 + 7 * 24, 8, 0);
        grainIs(x, 10, 1, 11, 1, 10, 8, 1, 17 + 6 + 1 + 7 * 24, 8, 0);
        // from an even turn it goes on at once
        grainIs(x, 10, 2, 100, 1, 10, 8, 16, 16 + 6 + 1 + 7 * 24, 8, 0);
        // a ring takes about 43 beats, which is too many for seven of them
        x.dress(0, 1, 1, 1, -24);
        x.dress(1, 1, 1, 1, -24);
        grainIs(x, 0, 1, 100, 0, 10, 7, 56, 300, 7, 18);
        grainTurns();
        due("18: a", UNKNOWN, x.grain(24, 0, 0, 9));
        due("18: a", UNKNOWN, x.grain(-1, 0, 1, 0));
        due("18: t", UNKNOWN, x.grain(0, 24, 1, 0));
        due("18: size 0", OUTSIDE, x.grain(0, 0, 0, 0));
        due("18: size 101", OUTSIDE, x.grain(0, 0, 101, 0));
        due("18: what 7", OUTSIDE, x.grain(0, 0, 1, 7));
        due("18: what -1", OUTSIDE, x.grain(0, 0, 1, -1));
    }

    // where a grain goes as it is cut: a, then a and 1, then a less 1, else a
    private void grainTurns() {
        StoneFurrows x = new StoneFurrows();
        dressAllFurrow(x, 1);
        x.dress(0, 1, 1, 1, 8);
        grainIs(x, 0, 0, 1, 1, 1, 8, 0, 8, 8, 7);
        x.dress(0, 1, 1, 1, -8);
        grainIs(x, 0, 0, 1, 1, 1, 8, 0, 8, 8, 17);
        x.dress(0, 1, 3, 1, 8);
        grainIs(x, 2, 0, 1, 1, 1, 8, 0, 8, 8, 7 + 0);
        // both a and 1 and a less 1 are furrow, a is not: a and 1 it is
        x.dress(0, 12, 1, 1, 8);
        grainIs(x, 0, 0, 1, 1, 1, 8, 0, 8, 8, 7);
        // none is near: it stays in its sector, and the runner's furrow drives it on to 2 r
        x.dress(0, 1, 1, 1, 16);
        grainIs(x, 0, 0, 1, 1, 1, 8, 0, 8 + 14, 8, 14);
    }

    private void promise19Grist() {
        StoneFurrows x = new StoneFurrows();
        dressAllFurrow(x, 0);
        dressAllFurrow(x, 1);
        x.gap(1);
        due("19: out", 96, x.grist(100, 0));
        due("19: sizes", 96 * 12, x.grist(100, 1));
        due("19: warmth", 0, x.grist(100, 2));
        due("19: greatest", 12, x.grist(100, 3));
        x.dress(0, 1, 1, 1, 0);
        x.dress(1, 1, 1, 1, 0);
        int out = 0;
        int sizes = 0;
        int warmth = 0;
        int greatest = 0;
        for (int a = 0; a < 24; a++) {
            for (int t = 0; t < 24; t += 6) {
                int is = x.grain(a, t, 50, 0);
                out += is;
                sizes += is * x.grain(a, t, 50, 1);
                warmth += x.grain(a, t, 50, 3);
                greatest = Math.max(greatest, is * x.grain(a, t, 50, 1));
            }
        }
        StoneFurrows y = new StoneFurrows();
        y.gap(1);
        due("19: some out", out, y.grist(50, 0));
        due("19: sizes of these", sizes, y.grist(50, 1));
        due("19: warmth of all", warmth, y.grist(50, 2));
        due("19: the greatest of these", greatest, y.grist(50, 3));
        due("19: size 0", OUTSIDE, y.grist(0, 0));
        due("19: size 101", OUTSIDE, y.grist(101, 0));
        due("19: what 4", OUTSIDE, y.grist(1, 4));
        due("19: what -1", OUTSIDE, y.grist(1, -1));
        due("19: refusals do not count", 4, y.count(4));
        for (int i = 4; i < 40; i++) {
            due("19: the " + i + "th", out, y.grist(50, 0));
        }
        due("19: done 40 times", STATE, y.grist(50, 0));
        due("19: OUTSIDE is told first", OUTSIDE, y.grist(50, 4));
        due("19: 40 times", 40, y.count(4));
    }

    private void promise20Mill() {
        StoneFurrows x = new StoneFurrows();
        due("20: all land of both", 2 * 184, x.mill(1));
        due("20: bushels", 1, x.count(6));
        due("20: land", 59, x.spot(0, 0, 1, 1));
        due("20: furrow", 40, x.spot(0, 0, 0, 1));
        due("20: another stone", 60, x.spot(2, 0, 1, 1));
        x.crack(0, 3, 3, true);
        x.crack(0, 3, 0, true);
        due("20: a crack wears two", 2 * 184 + 1, x.mill(1));
        due("20: the crack", 57, x.spot(0, 3, 3, 1));
        due("20: the cracked furrow", 40, x.spot(0, 3, 0, 1));
        // now all but the crack are highest, at 58, in the bed; all at 58 in the runner
        due("20: the crack rests", 2 * 184 - 1, x.mill(1));
        due("20: and is at 57 as the others", 57, x.spot(0, 3, 3, 1));
        due("20: 56 of it all", 55, lessAt(x, 0, 3, 3));
        x.chisel(1, 0, 5, 2);
        x.chisel(1, 0, 6, 60);
        due("20: sixty bushels", true, x.mill(60) > 0);
        due("20: to 0 at least", 0, x.spot(0, 5, 5, 1));
        due("20: nothing is left", 0, x.mill(2));
        due("20: furrows stay", 40, x.spot(1, 0, 0, 1));
        crackAtOne();
        oneIsHighest(0, 1);
        oneIsHighest(0, 23);
        oneIsHighest(7, 0);
        oneIsHighest(7, 23);
        ringsWithoutGround();
        long before = x.digest();
        due("20: n 0", OUTSIDE, x.mill(0));
        due("20: n 61", OUTSIDE, x.mill(61));
        due("20: refusals change nothing", before, x.digest());
    }

    private int lessAt(StoneFurrows x, int k, int r, int a) {
        x.mill(1);
        return x.spot(k, r, a, 1);
    }

    private void due(String call, boolean want, boolean got) {
        check.holds(call, want == got);
    }

    private void crackAtOne() {
        StoneFurrows x = new StoneFurrows();
        x.mill(59);
        x.crack(1, 2, 2, true);
        due("20: a crack at 1 loses 1", 2 * 184, x.mill(1));
        due("20: 0", 0, x.spot(1, 2, 2, 1));
    }

    // all others are cracked, so that at the second bushel one spot of the bed stands above them
    private void oneIsHighest(int r, int a) {
        StoneFurrows x = new StoneFurrows();
        x.dress(0, 1, 1, 1, 8);
        for (int i = 0; i < 8 * 24; i++) {
            x.crack(0, i / 24, i % 24, i != r * 24 + a);
        }
        due("20: one alone is not cracked", 184 + 2 * 183 + 1, x.mill(1));
        due("20: one alone is highest", 184 + 1, x.mill(1));
        due("20: it is as the others", 58, x.spot(0, r, a, 1));
        due("20: and these wear two again", 184 + 2 * 183 + 1, x.mill(1));
    }

    // where the other stone is furrow all round, nothing is ground, how high it ever is
    private void ringsWithoutGround() {
        StoneFurrows x = new StoneFurrows();
        dressAllFurrow(x, 1);
        due("20: no ground", 0, x.mill(5));
        due("20: land against furrows", 60, x.spot(0, 3, 3, 1));
        x.dress(1, 12, 1, 1, 0);
        x.dress(0, 12, 1, 1, 0);
        due("20: even land against even land", 2 * 96, x.mill(1));
        due("20: the bed may be the runner", 1, x.pair(1, 0));
        due("20: again", 2 * 96, x.mill(1));
    }

    private void promise21Staff() {
        StoneFurrows x = new StoneFurrows();
        due("21: line 0: furrows at 0, land at 12", 0xFF00, x.staff(0, 0, 0));
        due("21: line 12: the other way", 0x00FF, x.staff(0, 12, 19));
        due("21: 40 is 60 less 20", 0xFFFF, x.staff(0, 0, 20));
        due("21: 40 is below 60 less 19", 0xFF00, x.staff(0, 0, 19));
        x.chisel(0, 0, 5, 3);
        x.chisel(0, 7, 17, 4);
        due("21: with q 0", 0x7FFE, x.staff(0, 5, 0));
        due("21: with q 2", 0x7FFE, x.staff(0, 5, 2));
        due("21: with q 3", 0x7FFF, x.staff(0, 5, 3));
        due("21: with q 4", 0xFFFF, x.staff(0, 5, 4));
        due("21: from the other end", 0xFE7F, x.staff(0, 17, 2));
        due("21: k", UNKNOWN, x.staff(4, 0, 99));
        due("21: a 24", UNKNOWN, x.staff(0, 24, 0));
        due("21: a -1", UNKNOWN, x.staff(0, -1, 0));
        due("21: q 21", OUTSIDE, x.staff(0, 0, 21));
        due("21: q -1", OUTSIDE, x.staff(0, 0, -1));
    }

    private void promise22High() {
        StoneFurrows x = new StoneFurrows();
        due("22: none", 0, x.high(0, 0, 0));
        due("22: furrows are no land", 0, x.high(0, 0, 1));
        x.chisel(0, 0, 5, 5);
        x.chisel(0, 0, 6, 3);
        // least 55, one at 57, 182 at 60
        due("22: q 0", 183, x.high(0, 0, 0));
        due("22: q 0 together", 2 + 182 * 5, x.high(0, 0, 1));
        due("22: q 2", 182, x.high(0, 2, 0));
        due("22: q 2 together", 182 * 3, x.high(0, 2, 1));
        due("22: q 4", 182, x.high(0, 4, 0));
        due("22: q 5", 0, x.high(0, 5, 0));
        due("22: q 60", 0, x.high(0, 60, 0));
        dressAllFurrow(x, 1);
        due("22: no land", 0, x.high(1, 0, 0));
        due("22: no land together", 0, x.high(1, 0, 1));
        due("22: k", UNKNOWN, x.high(4, 99, 9));
        due("22: q 61", OUTSIDE, x.high(0, 61, 0));
        due("22: q -1", OUTSIDE, x.high(0, -1, 0));
        due("22: what 2", OUTSIDE, x.high(0, 0, 2));
        due("22: what -1", OUTSIDE, x.high(0, 0, -1));
    }

    private void promise23Level() {
        StoneFurrows x = new StoneFurrows();
        x.chisel(0, 0, 5, 25);
        x.chisel(0, 0, 6, 3);
        due("23: q 30", 0, x.level(0, 30));
        due("23: q 23", 182, x.level(0, 23));
        due("23: cut to 58", 58, x.spot(0, 0, 7, 1));
        due("23: 57 is not high", 57, x.spot(0, 0, 6, 1));
        due("23: none left", 0, x.level(0, 23));
        due("23: q 0", 183, x.level(0, 0));
        due("23: all land at 35", 183 * 35 + 35 + 8 * 40, x.stuff(0));
        due("23: a furrow above land stays", 40, x.spot(0, 0, 0, 1));
        dressAllFurrow(x, 1);
        due("23: no land", 0, x.level(1, 0));
        due("23: k", UNKNOWN, x.level(-1, 99));
        due("23: q 61", OUTSIDE, x.level(0, 61));
        due("23: q -1", OUTSIDE, x.level(0, -1));
    }

    private void promise24Feel() {
        StoneFurrows x = new StoneFurrows();
        due("24: a", UNKNOWN, x.feel(24, 0, 0));
        due("24: a", UNKNOWN, x.feel(-1, 0, 1));
        due("24: t", UNKNOWN, x.feel(0, 24, 1));
        due("24: v 0", OUTSIDE, x.feel(0, 0, 0));
        due("24: v 101", OUTSIDE, x.feel(0, 0, 101));
        for (int i = 1; i <= 12; i++) {
            due("24: the " + i + "th", i, x.feel(0, 0, i == 1 ? 1 : 100));
        }
        due("24: full", FULL, x.feel(0, 0, 1));
        due("24: OUTSIDE is told first", OUTSIDE, x.feel(0, 0, 0));
        due("24: UNKNOWN is told first", UNKNOWN, x.feel(0, 24, 0));
        due("24: twelve", 12, x.count(1));
    }

    private void promise25Numb() {
        StoneFurrows x = new StoneFurrows();
        due("25: none", 0, x.numb());
        x.feel(0, 0, 99);
        x.feel(1, 1, 1);
        due("25: nothing explains these", 0, x.explains());
        due("25: two", 2, x.numb());
        due("25: none", 0, x.count(1));
        due("25: all explain nothing", 961, x.explains());
        due("25: the first again", 1, x.feel(0, 0, 10));
    }

    private void promise26Explains() {
        StoneFurrows x = new StoneFurrows();
        due("26: all", 961, x.explains());
        for (int v = 8; v <= 12; v++) {
            feelAllRound(x, v);
            due("26: true explains " + v, Math.abs(v - 10) <= 1, x.explained(0) == 0);
        }
        feelAllRound(x, 10);
        // true; or by 1 to any side; by 2 one of the quarters has a SLOPE of -71 or below, which is 2 less
        due("26: felt at the four quarters", 1 + 2 * 24, x.explains());
        x.numb();
        x.feel(3, 0, 30);
        due("26: 30 of 10 by SIZE 19, or 20 and its neighbours", 2 * 4, x.explains());
        x.gap(11);
        due("26: with GAP as it is: 18, 19, 20, 21 of 11", countTo(3, 0, 30, 11), x.explains());
        x.feel(3, 1, 30);
        due("26: hardly the bent one at the next turn", true, x.explains() < countTo(3, 0, 30, 11));
        x.gap(60);
        due("26: none", 0, x.explains());
    }

    private static void feelAllRound(StoneFurrows x, int v) {
        x.numb();
        for (int a = 0; a < 24; a += 6) {
            x.feel(a, 0, v);
        }
    }

    // how many hangings have the gap v, or one less or more, at the rim: by asking the gap of each
    private int countTo(int a, int t, int v, int gap) {
        StoneFurrows y = new StoneFurrows();
        y.gap(gap);
        int found = Math.abs(gap - v) <= 1 ? 1 : 0;
        for (int i = 0; i < 480; i++) {
            y = i % 100 == 0 ? new StoneFurrows() : y;
            y.gap(gap);
            y.hang(1, 1 + i / 24, i % 24);
            found += Math.abs(y.gapAt(7, a, t) - v) <= 1 ? 1 : 0;
        }
        for (int i = 0; i < 480; i++) {
            y = i % 100 == 0 ? new StoneFurrows() : y;
            y.gap(gap);
            y.hang(2, 1 + i / 24, i % 24);
            found += Math.abs(y.gapAt(7, a, t) - v) <= 1 ? 1 : 0;
        }
        return found;
    }

    private void promise27Explained() {
        StoneFurrows x = new StoneFurrows();
        due("27: true", 0, x.explained(0));
        due("27: leaning by 1 to 0", 1024, x.explained(1));
        due("27: leaning by 1 to 23", 1047, x.explained(24));
        due("27: leaning by 20 to 23", 1503, x.explained(480));
        due("27: bent by 1 to 0", 2024, x.explained(481));
        due("27: bent by 20 to 23", 2503, x.explained(960));
        due("27: none", NONE, x.explained(961));
        due("27: none", NONE, x.explained(-1));
        due("27: none", NONE, x.explained(MOST));
        due("27: none", NONE, x.explained(LEAST));
        // 30 of 10 at sector 3: SIZE 19 gives 29 straight on; 20 gives 30 there, 29 beside it (19.4)
        x.feel(3, 0, 30);
        int[] want = {1000 + 24 * 19 + 3, 1000 + 480 + 2, 1000 + 480 + 3, 1000 + 480 + 4, 2000 + 24 * 19 + 3};
        // 19 times 97 by 100 is 18.43: too little
        due("27: leaning by 19", want[0], x.explained(0));
        due("27: leaning by 20 beside", want[1], x.explained(1));
        due("27: leaning by 20", want[2], x.explained(2));
        due("27: leaning by 20 beside", want[3], x.explained(3));
        due("27: then the bent ones", 2000 + 24 * 19 + 3, x.explained(4));
        due("27: six and two in all", x.explains(), 8);
        due("27: the last", 2000 + 480 + 4, x.explained(7));
        due("27: none behind it", NONE, x.explained(8));
    }

    private void promise28Sieve() {
        StoneFurrows x = new StoneFurrows();
        due("28: coarse 1001", OUTSIDE, x.sieve(1001, 0));
        due("28: coarse -1", OUTSIDE, x.sieve(-1, 0));
        due("28: fine 1001", OUTSIDE, x.sieve(0, 1001));
        due("28: fine -1", OUTSIDE, x.sieve(0, -1));
        for (int i = 1; i <= 24; i++) {
            due("28: the " + i + "th", i, x.sieve(1000, 1000));
        }
        due("28: full", FULL, x.sieve(0, 0));
        due("28: OUTSIDE is told first", OUTSIDE, x.sieve(0, -1));
        due("28: 24", 24, x.count(0));
        due("28: all of them coarse", 24, x.meal(499, 0));
    }

    private void promise29Skip() {
        StoneFurrows x = new StoneFurrows();
        for (int i = 1; i <= 24; i++) {
            due("29: the " + i + "th", i, x.skip());
        }
        due("29: full", FULL, x.skip());
        due("29: not looked at is not coarse", 0, x.meal(0, 0));
        due("29: nor dull", NONE, x.meal(0, 1));
        due("29: nor long", 0, x.meal(0, 2));
    }

    private void promise30Meal() {
        StoneFurrows x = new StoneFurrows();
        due("30: no hours", 0, x.meal(0, 0));
        due("30: no hours", NONE, x.meal(0, 1));
        due("30: no hours", 0, x.meal(0, 2));
        x.sieve(500, 500);
        due("30: as much is not above", 0, x.meal(500, 0));
        due("30: above", 1, x.meal(499, 0));
        due("30: dull since 0", 0, x.meal(499, 1));
        x.sieve(0, 0);
        due("30: none if all is 0", 1, x.meal(0, 0));
        due("30: the last is not coarse", NONE, x.meal(0, 1));
        x.skip();
        x.sieve(501, 499);
        x.skip();
        x.sieve(1000, 0);
        x.skip();
        due("30: coarse", 2, x.meal(500, 0));
        due("30: dull since the hour looked at, not the one before", 3, x.meal(500, 1));
        due("30: the gap between does not part them", 2, x.meal(500, 2));
        due("30: 1000 is never above", 0, x.meal(1000, 0));
        due("30: dull since 5", 5, x.meal(600, 1));
        x.sieve(0, 1);
        due("30: none, as the last is not", NONE, x.meal(500, 1));
        due("30: but the longest stays", 2, x.meal(500, 2));
        x.sieve(9, 0);
        due("30: dull since 8", 8, x.meal(500, 1));
        due("30: the longest stays", 2, x.meal(500, 2));
        due("30: x 1001", OUTSIDE, x.meal(1001, 0));
        due("30: x -1", OUTSIDE, x.meal(-1, 0));
        due("30: what 3", OUTSIDE, x.meal(0, 3));
        due("30: what -1", OUTSIDE, x.meal(0, -1));
    }

    private void promise31Sweep() {
        StoneFurrows x = new StoneFurrows();
        due("31: none", 0, x.sweep());
        x.skip();
        x.sieve(9, 1);
        due("31: two", 2, x.sweep());
        due("31: none", 0, x.count(0));
        due("31: none are coarse", 0, x.meal(0, 0));
        due("31: the first again", 1, x.skip());
    }

    private void promise32Due() {
        StoneFurrows x = new StoneFurrows();
        due("32: a day", 1, x.due(5, 0, 0, 1));
        due("32: three days suffice", 1, x.due(0, 28, 30, 3));
        due("32: two", 2, x.count(2));
        long before = x.digest();
        due("32: two days do not suffice", OUTSIDE, x.due(0, 29, 30, 3));
        due("32: m 6", UNKNOWN, x.due(6, 0, 30, 9));
        due("32: m -1", UNKNOWN, x.due(-1, 0, 30, 1));
        due("32: from -1", OUTSIDE, x.due(0, -1, 30, 1));
        due("32: to 31", OUTSIDE, x.due(0, 0, 31, 1));
        due("32: to below from", OUTSIDE, x.due(0, 5, 4, 1));
        due("32: n 0", OUTSIDE, x.due(0, 0, 30, 0));
        due("32: n 4", OUTSIDE, x.due(0, 0, 30, 4));
        due("32: days that would wrap", OUTSIDE, x.due(0, LEAST, MOST, 1));
        due("32: refusals change nothing", before, x.digest());
        x.free(5);
        due("32: it is begun at 28", 28, x.begun(0));
        due("32: told anew", 1, x.due(0, 3, 9, 2));
        due("32: it is begun at 3", 3, x.begun(0));
        due("32: done at 4", 4, x.plan());
        due("32: one", 1, x.count(2));
    }

    private void promise33Free() {
        StoneFurrows x = new StoneFurrows();
        due("33: was not", 0, x.free(3));
        x.due(3, 1, 5, 2);
        due("33: was", 1, x.free(3));
        due("33: is not", 0, x.free(3));
        due("33: none", 0, x.count(2));
        due("33: no plan", NONE, x.plan());
        due("33: m", UNKNOWN, x.free(6));
        due("33: m", UNKNOWN, x.free(-1));
    }

    private void promise34Road() {
        StoneFurrows x = new StoneFurrows();
        due("34: took 0", 0, x.road(2, 4, 5));
        due("34: took 5, the other way too", 5, x.road(4, 2, 1));
        due("34: took 1", 1, x.road(2, 4, 1));
        due("34: others are as they were", 0, x.road(2, 3, 0));
        due("34: a", UNKNOWN, x.road(6, 0, 9));
        due("34: b", UNKNOWN, x.road(0, -1, 1));
        due("34: both the same and none", UNKNOWN, x.road(6, 6, 1));
        due("34: d 6", OUTSIDE, x.road(0, 1, 6));
        due("34: d -1", OUTSIDE, x.road(0, 1, -1));
        due("34: the same", OUTSIDE, x.road(1, 1, 1));
        due("34: stays", 1, x.road(2, 4, 0));
    }

    private void promise35Dressers() {
        StoneFurrows x = new StoneFurrows();
        due("35: was 1", 1, x.dressers(3));
        due("35: 0", OUTSIDE, x.dressers(0));
        due("35: 4", OUTSIDE, x.dressers(4));
        due("35: was 3", 3, x.dressers(2));
        due("35: told", 2, x.count(3));
    }

    private void promise36Plan() {
        StoneFurrows x = new StoneFurrows();
        due("36: no mill", NONE, x.plan());
        x.due(0, 0, 30, 2);
        due("36: days 0 and 1", 1, x.plan());
        x.due(1, 0, 30, 3);
        due("36: then 2 to 4", 4, x.plan());
        x.road(0, 1, 3);
        due("36: then 5 to 7", 7, x.plan());
        x.dressers(2);
        due("36: each one", 2, x.plan());
        x.dressers(1);
        x.due(0, 0, 6, 2);
        due("36: first 0, or it would be done at 7", 7, x.plan());
        x.due(1, 0, 6, 3);
        due("36: no plan", NONE, x.plan());
        x.due(1, 0, 7, 3);
        due("36: done on the last day", 7, x.plan());
        x.due(1, 9, 20, 3);
        due("36: not begun before the first", 11, x.plan());
        roundAboutRoads();
        for (int i = x.count(5); i < 20; i++) {
            due("36: " + i, 11, x.plan());
        }
        due("36: done 20 times", STATE, x.plan());
        due("36: with given()", STATE, x.given(0));
        due("36: with begun()", STATE, x.begun(0));
        due("36: 20 times", 20, x.count(5));
    }

    // a way over another mill may be the shorter one, but it is no road
    private void roundAboutRoads() {
        StoneFurrows x = new StoneFurrows();
        for (int m = 0; m < 6; m++) {
            x.due(m, 0, 30, 1);
            for (int b = 0; b < m; b++) {
                x.road(m, b, 5);
            }
        }
        due("36: six mills, five roads of five days", 6 + 25 - 1, x.plan());
        x.road(0, 5, 0);
        due("36: one of them shorter", 30 - 5, x.plan());
        x.dressers(2);
        due("36: three each, three of them by two roads of five", 3 + 10 - 1, x.plan());
        x.dressers(3);
        due("36: two each, one of them without a road", 1 + 5 + 1 - 1, x.plan());
    }

    private void promise37Given() {
        StoneFurrows x = new StoneFurrows();
        due("37: no plan", NONE, x.given(0));
        x.due(1, 0, 30, 1);
        x.due(3, 0, 30, 1);
        x.due(5, 4, 30, 2);
        x.dressers(3);
        // done at 5 anyway, so dresser 0 may do all of it
        due("37: the least", 0, x.given(1));
        due("37: the least", 0, x.given(3));
        due("37: the least", 0, x.given(5));
        due("37: not to be dressed", NONE, x.given(0));
        x.due(5, 0, 30, 2);
        // done at 1: 1 and 3 by dresser 0, 5 by dresser 1
        due("37: dresser 0", 0, x.given(1));
        due("37: dresser 0", 0, x.given(3));
        due("37: dresser 1", 1, x.given(5));
        x.road(1, 3, 1);
        // done at 1 still: each mill its dresser
        due("37: dresser 1 takes the next", 1, x.given(3));
        due("37: dresser 2 the last", 2, x.given(5));
        x.due(0, 0, 0, 1);
        x.due(1, 0, 0, 1);
        x.due(2, 0, 0, 1);
        x.due(3, 0, 0, 1);
        due("37: four on one day are too many", NONE, x.given(0));
        due("37: m 6", UNKNOWN, x.given(6));
        due("37: m -1", UNKNOWN, x.given(-1));
        due("37: refusals do not count", 11, x.count(5));
        for (int i = 11; i < 20; i++) {
            x.given(0);
        }
        due("37: done 20 times", STATE, x.given(0));
        due("37: UNKNOWN is told first", UNKNOWN, x.given(6));
    }

    private void promise38Begun() {
        StoneFurrows x = new StoneFurrows();
        due("38: no plan", NONE, x.begun(0));
        x.due(0, 0, 30, 2);
        x.due(1, 0, 30, 2);
        x.due(2, 0, 30, 2);
        // 0, 1, 2 by their numbers
        due("38: first", 0, x.begun(0));
        due("38: second", 2, x.begun(1));
        due("38: third", 4, x.begun(2));
        x.road(0, 1, 1);
        // 0 1 2 and 2 1 0 take longer; 0 2 1 is the least of the others
        due("38: 0 first", 0, x.begun(0));
        due("38: then 2", 2, x.begun(2));
        due("38: then 1", 4, x.begun(1));
        due("38: not to be dressed", NONE, x.begun(5));
        x.due(2, 0, 1, 2);
        due("38: 2 first", 0, x.begun(2));
        due("38: then 0", 2, x.begun(0));
        due("38: then the road, then 1", 5, x.begun(1));
        x.due(3, 0, 0, 1);
        due("38: no plan", NONE, x.begun(2));
        x.dressers(2);
        due("38: a plan for two", 0, x.begun(3));
        due("38: m", UNKNOWN, x.begun(6));
        due("38: m", UNKNOWN, x.begun(LEAST));
        for (int i = x.count(5); i < 20; i++) {
            x.begun(0);
        }
        due("38: done 20 times", STATE, x.begun(0));
        due("38: UNKNOWN is told first", UNKNOWN, x.begun(-1));
    }

    private void promise39Count() {
        StoneFurrows x = new StoneFurrows();
        x.skip();
        x.sieve(1, 1);
        x.feel(1, 1, 1);
        x.due(0, 0, 5, 1);
        x.due(4, 0, 5, 1);
        x.due(5, 0, 5, 1);
        x.dressers(2);
        x.grist(5, 0);
        x.grist(5, 0);
        x.plan();
        x.given(0);
        x.begun(0);
        x.begun(1);
        x.mill(7);
        x.mill(4);
        x.pair(2, 3);
        int[] want = {2, 1, 3, 2, 2, 4, 11, 2, 3};
        for (int what = 0; what < want.length; what++) {
            due("39: " + what, want[what], x.count(what));
        }
        due("39: 9", OUTSIDE, x.count(9));
        due("39: -1", OUTSIDE, x.count(-1));
        due("39: most", OUTSIDE, x.count(MOST));
    }

    private static long mixed(long h, int... numbers) {
        for (int number : numbers) {
            h = 31 * h + number;
        }
        return h;
    }

    private static long stonesAtFirst() {
        long h = 223;
        for (int spot = 0; spot < 4 * 192; spot++) {
            h = spot % 24 == 0 ? mixed(h, 1, 40, 0) : mixed(h, 0, 60, 0);
        }
        return h;
    }

    private void promise40Digest() {
        StoneFurrows x = new StoneFurrows();
        long h = mixed(stonesAtFirst(), 0, 1, 10, 0, 0, 0);
        h = mixed(h, -1, -1, -1, -1, -1, -1);
        h = mixed(h, new int[15]);
        due("40: at first", mixed(h, 1, 0, 0, 0), x.digest());
        x.pair(2, 3);
        x.gap(11);
        x.hang(2, 5, 17);
        x.feel(3, 4, 50);
        x.feel(5, 6, 7);
        x.sieve(8, 9);
        x.skip();
        x.due(1, 2, 9, 3);
        x.due(5, 0, 1, 1);
        x.road(0, 1, 1);
        x.road(0, 2, 2);
        x.road(4, 5, 3);
        x.road(3, 1, 4);
        x.dressers(3);
        x.plan();
        x.plan();
        x.grist(1, 0);
        h = mixed(stonesAtFirst(), 2, 3, 11, 2, 5, 17);
        h = mixed(h, 3, 4, 50, 5, 6, 7);
        h = mixed(h, 8, 9, -1, -1);
        h = mixed(h, -1, 2, 9, 3, -1, -1, -1, 0, 1, 1);
        h = mixed(h, 1, 2, 0, 0, 0, 0, 4, 0, 0, 0, 0, 0, 0, 0, 3);
        due("40: with all of it", mixed(h, 3, 1, 2, 0), x.digest());
        long before = x.digest();
        x.crack(3, 7, 23, true);
        due("40: a crack of the last spot", true, before != x.digest());
        x.crack(3, 7, 23, false);
        due("40: as it was", before, x.digest());
        x.mill(1);
        due("40: milled", true, before != x.digest());
    }

    public static void main(String[] args) {
        PromisesTest test = new PromisesTest();
        test.promise1NewObject();
        test.promise2Dress();
        test.promise3Spot();
        test.promise4Chisel();
        test.promise5Crack();
        test.promise6Leads();
        test.promise7Is();
        test.promise8Stuff();
        test.promise9Pair();
        test.promise10Crossings();
        test.promise11Round();
        test.promise12Outward();
        test.promise13Drift();
        test.promise14Gap();
        test.promise15Hang();
        test.promise16GapAt();
        test.promise17Gaps();
        test.promise18Grain();
        test.promise19Grist();
        test.promise20Mill();
        test.promise21Staff();
        test.promise22High();
        test.promise23Level();
        test.promise24Feel();
        test.promise25Numb();
        test.promise26Explains();
        test.promise27Explained();
        test.promise28Sieve();
        test.promise29Skip();
        test.promise30Meal();
        test.promise31Sweep();
        test.promise32Due();
        test.promise33Free();
        test.promise34Road();
        test.promise35Dressers();
        test.promise36Plan();
        test.promise37Given();
        test.promise38Begun();
        test.promise39Count();
        test.promise40Digest();
        test.check.end();
    }
}
