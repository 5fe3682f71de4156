import java.util.Arrays;
import java.util.Set;

/** What is told of all of it: promises 39 and 40, and what holds for every call. */
final class ToldEdges extends Edges {
    private static final int SPOTS = 192;

    ToldEdges(Check check, Set<Integer> promises) {
        super(check, promises);
    }

    // ---- promise 39

    void p39What() {
        says(39, "7 the BED, 8 the RUNNER");
        within(0, 8, OUTSIDE, 0, "count", 0);
        told("pair", 3, 2);
        due(3, "count", 7);
        due(2, "count", 8);
        refused(OUTSIDE, "count", 9);
        refused(OUTSIDE, "count", -1);
    }

    void p39Greatest() {
        says(39, "How many: 0 HOURS, 1 FELT, 2 MILLS to be DRESSED, 3 DRESSERS");
        for (int i = 0; i < 24; i++) {
            due(i, "count", 0);
            told("skip");
        }
        for (int i = 0; i < 12; i++) {
            due(i, "count", 1);
            told("feel", 0, 0, 10);
        }
        for (int m = 0; m < 6; m++) {
            due(m, "count", 2);
            told("due", m, 0, 30, 1);
        }
        told("dressers", 3);
        int[] want = {24, 12, 6, 3, 0, 0, 0, 0, 1};
        for (int what = 0; what < want.length; what++) {
            due(want[what], "count", what);
        }
        told("sweep");
        told("numb");
        told("free", 5);
        told("dressers", 2);
        due(0, "count", 0);
        due(0, "count", 1);
        due(5, "count", 2);
        due(2, "count", 3);
    }

    void p39Bushels() {
        says(39, "6 bushels MILLED in all");
        told("mill", 60);
        told("mill", 1);
        due(61, "count", 6);
        allFurrow(0);
        told("mill", 2);
        due(63, "count", 6);
        refused(OUTSIDE, "mill", 61);
        due(63, "count", 6);
        for (int i = 0; i < 400; i++) {
            told("mill", 60);
        }
        due(63 + 24000, "count", 6);
    }

    void p39CountsOn() {
        says(39, "(how often calls were done counts on, whatever is read or restored)");
        told("grist", 5, 0);
        told("plan");
        told("mill", 1);
        told("sweep");
        told("numb");
        for (int k = 0; k < 4; k++) {
            told("dress", k, 1, 1, 1, 0);
        }
        told("pair", 0, 1);
        told("gap", 10);
        told("hang", 0, 0, 0);
        told("free", 0);
        told("grain", 0, 0, 1, 0);
        due(1, "count", 4);
        due(1, "count", 5);
        due(1, "count", 6);
        told("grist", 5, 3);
        due(NONE, "given", 0);
        due(NONE, "begun", 0);
        due(2, "count", 4);
        due(3, "count", 5);
    }

    // ---- promise 40

    private static long mixed(long start, int... numbers) {
        long h = start;
        for (int number : numbers) {
            h = 31 * h + number;
        }
        return h;
    }

    // of one STONE as it is at first, or as all FURROW
    private static long stoneMixed(long start, boolean allFurrow) {
        long h = start;
        for (int i = 0; i < SPOTS; i++) {
            h = allFurrow || i % 24 == 0 ? mixed(h, 1, 40, 0) : mixed(h, 0, 60, 0);
        }
        return h;
    }

    private static long stonesMixed() {
        long h = 223;
        for (int k = 0; k < 4; k++) {
            h = stoneMixed(h, false);
        }
        return h;
    }

    private static long restAtFirst(long start) {
        long h = mixed(start, 0, 1, 10, 0, 0, 0);
        h = mixed(h, NONE, NONE, NONE, NONE, NONE, NONE);
        return mixed(mixed(h, new int[15]), 1, 0, 0, 0);
    }

    void p40AtFirst() {
        says(40, "h is 223, then for each of these numbers, in order, 31 times h, and it (as longs, wrapping)");
        due(restAtFirst(stonesMixed()), "digest");
    }

    void p40Spots() {
        says(40, "of each STONE of each SPOT (RING 0's SECTORS first) 1 if FURROW, else 0, HEIGHT, 1 with a CRACK, else 0");
        for (int k = 0; k < 4; k++) {
            anew();
            allFurrow(k);
            long h = 223;
            for (int j = 0; j < 4; j++) {
                h = stoneMixed(h, j == k);
            }
            due(restAtFirst(h), "digest");
        }
        for (int spot : new int[] {0, 1, 23, 24, 191}) {
            anew();
            told("chisel", 3, spot / 24, spot % 24, 9);
            told("crack", 3, spot / 24, spot % 24, 1);
            long h = stoneMixed(stoneMixed(stoneMixed(223, false), false), false);
            for (int i = 0; i < SPOTS; i++) {
                int furrow = i % 24 == 0 ? 1 : 0;
                h = mixed(h, furrow, 60 - 20 * furrow - (i == spot ? 9 : 0), i == spot ? 1 : 0);
            }
            due(restAtFirst(h), "digest");
        }
    }

    void p40Hanging() {
        says(40, "BED, RUNNER, GAP, kind, SIZE, SECTOR");
        told("pair", 3, 1);
        told("gap", 60);
        told("hang", 2, 20, 23);
        long h = mixed(stonesMixed(), 3, 1, 60, 2, 20, 23);
        h = mixed(mixed(h, NONE, NONE, NONE, NONE, NONE, NONE), new int[15]);
        due(mixed(h, 1, 0, 0, 0), "digest");
    }

    void p40FeltAndHours() {
        says(40, "of all that was FELT a, t, v; of each HOUR coarse, fine (NONE, NONE without)");
        long h = mixed(stonesMixed(), 0, 1, 10, 0, 0, 0);
        for (int i = 0; i < 12; i++) {
            told("feel", i, 23 - i, 50 + i);
            h = mixed(h, i, 23 - i, 50 + i);
        }
        for (int i = 0; i < 24; i++) {
            if (i % 5 == 0) {
                told("skip");
                h = mixed(h, NONE, NONE);
            } else {
                told("sieve", i, 1000 - i);
                h = mixed(h, i, 1000 - i);
            }
        }
        h = mixed(mixed(h, NONE, NONE, NONE, NONE, NONE, NONE), new int[15]);
        due(mixed(h, 1, 0, 0, 0), "digest");
        told("numb");
        told("sweep");
        due(restAtFirst(stonesMixed()), "digest");
    }

    void p40Mills() {
        says(40, "of each MILL NONE, or from, to, days; of each two MILLS a below b the ROAD");
        long h = mixed(stonesMixed(), 0, 1, 10, 0, 0, 0);
        for (int m = 0; m < 6; m++) {
            told("due", m, m, 20 + m, 1 + m % 3);
            h = mixed(h, m, 20 + m, 1 + m % 3);
        }
        for (int a = 0; a < 6; a++) {
            for (int b = a + 1; b < 6; b++) {
                told("road", b, a, (2 * a + b) % 6);
                h = mixed(h, (2 * a + b) % 6);
            }
        }
        due(mixed(h, 1, 0, 0, 0), "digest");
        anew();
        told("due", 0, 0, 30, 3);
        told("due", 5, 30, 30, 1);
        h = mixed(stonesMixed(), 0, 1, 10, 0, 0, 0);
        h = mixed(h, 0, 30, 3, NONE, NONE, NONE, NONE, 30, 30, 1);
        due(mixed(mixed(h, new int[15]), 1, 0, 0, 0), "digest");
        told("free", 0);
        told("free", 5);
        due(restAtFirst(stonesMixed()), "digest");
    }

    void p40Counts() {
        says(40, "what count() tells for 3 to 6");
        told("dressers", 3);
        told("grist", 1, 0);
        told("grist", 1, 1);
        told("plan");
        told("plan");
        told("plan");
        told("plan");
        told("mill", 1);
        told("dress", 0, 1, 1, 1, 0);
        told("dress", 1, 1, 1, 1, 0);
        long h = mixed(stonesMixed(), 0, 1, 10, 0, 0, 0);
        h = mixed(mixed(h, NONE, NONE, NONE, NONE, NONE, NONE), new int[15]);
        due(mixed(h, 3, 2, 4, 1), "digest");
        due(mixed(h, 3, 2, 4, 1), "digest");
    }

    // ---- all promises

    void p40LastCall() {
        says(40, "An object is used for at most 512 calls after it has been made");
        for (int i = 1; i < 511; i++) {
            told("gap", 1 + i % 60);
        }
        due(1 + 510 % 60, "gap", 10);
        due(restAtFirst(stonesMixed()), "digest");
    }

    // each of them is asked with numbers that are wrong in every way they can be
    void p40RefusalsAreToldInOrder() {
        says(40, "Refusals, of several the first as told by each call: UNKNOWN (a number names nothing), OUTSIDE (it is not as"
            + " told), STATE (as told), FULL; they change nothing.");
        for (int v : new int[] {LEAST, -7, MOST}) {
            for (String name : new String[] {"dress 5", "spot 4", "chisel 4", "crack 4", "leads 2", "is 2", "stuff 1",
                "pair 2", "crossings 1", "gapAt 3", "grain 4", "staff 3", "high 3", "level 2", "feel 3", "due 4",
                "free 1", "road 3", "given 1", "begun 1"}) {
                refuseAll(UNKNOWN, name, v);
            }
            for (String name : new String[] {"round 1", "gap 1", "hang 3", "gaps 1", "grist 2", "mill 1", "sieve 2",
                "meal 2", "dressers 1", "count 1"}) {
                refuseAll(OUTSIDE, name, v);
            }
            refuseAll(-1000, "outward 1", v);
        }
    }

    private void refuseAll(int want, String call, int v) {
        String[] parts = call.split(" ");
        int[] arguments = new int[Integer.parseInt(parts[1])];
        Arrays.fill(arguments, v);
        refused(want, parts[0], arguments);
    }
}
