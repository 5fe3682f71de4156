import java.util.Set;

/** Meal by HOURS: promises 28 to 31. */
final class MealEdges extends Edges {
    MealEdges(Check check, Set<Integer> promises) {
        super(check, promises);
    }

    private void mealIs(int x, int coarse, int dullSince, int longest) {
        due(coarse, "meal", x, 0);
        due(dullSince, "meal", x, 1);
        due(longest, "meal", x, 2);
    }

    // ---- promise 28

    void p28Amounts() {
        says(28, "how much was coarse and how much fine (0 to 1000 each)");
        within(0, 1000, OUTSIDE, 0, "sieve", 0, 0);
        within(0, 1000, OUTSIDE, 1, "sieve", 1000, 0);
        refused(OUTSIDE, "sieve", -1, 1001);
        due(1, "sieve", 0, 0);
        due(2, "sieve", 1000, 1000);
        due(3, "sieve", 1000, 0);
        due(4, "sieve", 0, 1000);
        mealIs(0, 2, NONE, 2);
    }

    void p28Full() {
        says(28, "An HOUR's meal: how many HOURS. OUTSIDE; FULL.");
        for (int i = 1; i <= 23; i++) {
            due(i, "sieve", i, 1);
        }
        refused(OUTSIDE, "sieve", 1001, 0);
        due(24, "sieve", 0, 1000);
        refused(FULL, "sieve", 1, 1);
        refused(FULL, "skip");
        refused(OUTSIDE, "sieve", 1, -1);
        refused(OUTSIDE, "sieve", 1001, 1);
        mealIs(0, 23, NONE, 23);
        due(24, "count", 0);
    }

    // ---- promise 29

    void p29Full() {
        says(29, "An HOUR at which nobody looked: how many. FULL.");
        for (int i = 1; i <= 24; i++) {
            due(i, "skip");
        }
        refused(FULL, "skip");
        refused(FULL, "sieve", 1, 1);
        mealIs(0, 0, NONE, 0);
        due(24, "sweep");
        due(1, "skip");
    }

    void p29Both() {
        says(29, "of HOURS (24 at most, in order)");
        for (int i = 1; i <= 24; i += 2) {
            due(i, "sieve", 9, 1);
            due(i + 1, "skip");
        }
        refused(FULL, "skip");
        refused(FULL, "sieve", 9, 1);
        mealIs(0, 12, 0, 12);
    }

    // ---- promise 30

    void p30Coarse() {
        says(30, "COARSE by x (0 to 1000): coarse times 1000 is above x times all");
        told("sieve", 1, 999);
        mealIs(0, 1, 0, 1);
        mealIs(1, 0, NONE, 0);
        told("sweep");
        told("sieve", 1000, 1000);
        mealIs(499, 1, 0, 1);
        mealIs(500, 0, NONE, 0);
        told("sweep");
        told("sieve", 999, 1);
        mealIs(998, 1, 0, 1);
        mealIs(999, 0, NONE, 0);
        told("sweep");
        told("sieve", 1000, 0);
        mealIs(999, 1, 0, 1);
        mealIs(1000, 0, NONE, 0);
        told("sweep");
        told("sieve", 2, 1);
        mealIs(666, 1, 0, 1);
        mealIs(667, 0, NONE, 0);
    }

    void p30NoneIfAllIsZero() {
        says(30, "(none, if all is 0)");
        told("sieve", 0, 0);
        mealIs(0, 0, NONE, 0);
        told("sieve", 0, 5);
        mealIs(0, 0, NONE, 0);
        told("sieve", 5, 0);
        mealIs(0, 1, 2, 1);
        told("sieve", 0, 0);
        mealIs(0, 1, NONE, 1);
    }

    void p30DullSince() {
        says(30, "the first HOUR that was looked at from which on all that were looked at are COARSE");
        told("skip");
        told("sieve", 9, 1);
        mealIs(500, 1, 1, 1);
        told("skip");
        told("sieve", 8, 2);
        told("skip");
        mealIs(500, 2, 1, 2);
        mealIs(800, 1, NONE, 1);
        told("sieve", 9, 1);
        mealIs(500, 3, 1, 3);
        mealIs(800, 2, 5, 1);
        for (int i = 6; i < 23; i++) {
            told("skip");
        }
        mealIs(800, 2, 5, 1);
        told("sieve", 10, 0);
        mealIs(500, 4, 1, 4);
        mealIs(800, 3, 5, 2);
        mealIs(900, 1, 23, 1);
    }

    void p30NotDull() {
        says(30, "NONE, if the last one looked at is not.");
        mealIs(0, 0, NONE, 0);
        told("skip");
        mealIs(0, 0, NONE, 0);
        told("sieve", 9, 1);
        told("sieve", 5, 5);
        mealIs(500, 1, NONE, 1);
        told("skip");
        mealIs(500, 1, NONE, 1);
        mealIs(499, 2, 1, 2);
    }

    void p30AllHours() {
        says(30, "1 DULL SINCE (its number from 0; NONE)");
        for (int i = 0; i < 24; i++) {
            told("sieve", 9, 1);
        }
        mealIs(500, 24, 0, 24);
        mealIs(900, 0, NONE, 0);
    }

    // 3 COARSE, one not, 2 COARSE with gaps, one not, 3 COARSE with gaps
    void p30Longest() {
        says(30, "(those not looked at between do not count, and do not part them)");
        for (int looked : new int[] {1, 1, 1, 0, 1, 2, 1, 0}) {
            tellHour(looked);
        }
        mealIs(500, 5, NONE, 3);
        for (int looked : new int[] {2, 1, 2, 2, 1, 1, 2}) {
            tellHour(looked);
        }
        mealIs(500, 8, 9, 3);
        tellHour(1);
        mealIs(500, 9, 9, 4);
        tellHour(0);
        tellHour(2);
        tellHour(1);
        mealIs(500, 10, 18, 4);
    }

    // 0 not COARSE, 1 COARSE, 2 not looked at
    private void tellHour(int looked) {
        if (looked == 2) {
            told("skip");
        } else {
            told("sieve", looked == 1 ? 9 : 1, looked == 1 ? 1 : 9);
        }
    }

    void p30Refusals() {
        says(30, "By x: what = 0 how many HOURS are COARSE");
        told("sieve", 9, 1);
        within(0, 1000, OUTSIDE, 0, "meal", 0, 0);
        within(0, 2, OUTSIDE, 1, "meal", 1000, 0);
        refused(OUTSIDE, "meal", 1001, 3);
    }

    // ---- promise 31

    void p31Sweep() {
        says(31, "No HOURS: how many there were.");
        due(0, "sweep");
        told("sieve", 9, 1);
        due(1, "sweep");
        due(0, "sweep");
        mealIs(0, 0, NONE, 0);
        for (int i = 0; i < 24; i++) {
            told("sieve", 9, 1);
        }
        due(24, "sweep");
        due(0, "count", 0);
        due(1, "skip");
        due(2, "sieve", 1, 0);
        mealIs(0, 1, 1, 1);
    }
}
