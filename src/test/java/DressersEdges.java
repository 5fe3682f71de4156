import java.util.Set;

/** DRESSERS who go from MILL to MILL: promises 32 to 38. */
final class DressersEdges extends Edges {
    DressersEdges(Check check, Set<Integer> promises) {
        super(check, promises);
    }

    /** To whom each MILL is given, and when it is begun; what stands NONE is not to be DRESSED. */
    private void planIs(int latest, int[] given, int[] begun) {
        due(latest, "plan");
        for (int m = 0; m < given.length; m++) {
            due(given[m], "given", m);
            due(begun[m], "begun", m);
        }
    }

    private void planIs(int latest, int... begun) {
        due(latest, "plan");
        for (int m = 0; m < begun.length; m++) {
            due(begun[m], "begun", m);
        }
    }

    private void allRoads(int d) {
        for (int a = 0; a < 6; a++) {
            for (int b = 0; b < a; b++) {
                told("road", a, b, d);
            }
        }
    }

    // ---- promise 32

    void p32Mills() {
        says(32, "A MILL is to be DRESSED from a day to a day, in n days: 1. UNKNOWN: m");
        within(0, 5, UNKNOWN, 0, "due", 0, 0, 5, 1);
        refused(UNKNOWN, "due", 6, 5, 4, 9);
        refused(UNKNOWN, "due", -1, -1, 31, 0);
        due(1, "due", 0, 0, 5, 1);
        due(1, "due", 5, 0, 5, 1);
        due(2, "count", 2);
    }

    void p32Days() {
        says(32, "days (0 to 30, the second not below the first)");
        within(0, 30, OUTSIDE, 1, "due", 0, 0, 30, 1);
        within(0, 30, OUTSIDE, 2, "due", 0, 0, 0, 1);
        within(7, 30, OUTSIDE, 2, "due", 0, 7, 7, 1);
        refused(OUTSIDE, "due", 0, 31, 31, 1);
        refused(OUTSIDE, "due", 0, -1, -1, 1);
        refused(OUTSIDE, "due", 0, LEAST, MOST, 1);
        refused(OUTSIDE, "due", 0, MOST, LEAST, 1);
        due(1, "due", 0, 30, 30, 1);
        due(30, "plan");
        due(1, "due", 0, 0, 0, 1);
        due(0, "plan");
    }

    void p32HowMany() {
        says(32, "in so many days (1 to 3)");
        within(1, 3, OUTSIDE, 3, "due", 0, 0, 30, 1);
        due(1, "due", 0, 0, 30, 3);
        due(2, "plan");
        due(1, "due", 0, 0, 30, 1);
        due(0, "plan");
    }

    void p32Suffice() {
        says(32, "n, or they do not suffice.");
        due(1, "due", 0, 5, 5, 1);
        refused(OUTSIDE, "due", 0, 5, 5, 2);
        refused(OUTSIDE, "due", 0, 5, 5, 3);
        due(1, "due", 1, 5, 6, 2);
        refused(OUTSIDE, "due", 1, 5, 6, 3);
        due(1, "due", 2, 5, 7, 3);
        due(1, "due", 3, 28, 30, 3);
        refused(OUTSIDE, "due", 3, 29, 30, 3);
        due(1, "due", 4, 29, 30, 2);
        refused(OUTSIDE, "due", 4, 30, 30, 2);
        due(1, "due", 5, 30, 30, 1);
        due(6, "count", 2);
    }

    // what was told of the MILL before is gone; if the call is refused it stays
    void p32Anew() {
        says(32, "A MILL is to be DRESSED from a day to a day, in n days: 1.");
        told("due", 2, 0, 30, 3);
        due(1, "due", 2, 8, 9, 2);
        due(1, "count", 2);
        planIs(9, NONE, NONE, 8);
        refused(OUTSIDE, "due", 2, 3, 2, 1);
        planIs(9, NONE, NONE, 8);
    }

    // ---- promise 33

    void p33Free() {
        says(33, "A MILL is not to be DRESSED: 1 if it was, else 0. UNKNOWN.");
        within(0, 5, UNKNOWN, 0, "free", 0);
        due(0, "free", 0);
        told("due", 0, 0, 5, 1);
        told("due", 5, 0, 5, 2);
        refused(UNKNOWN, "free", 6);
        due(1, "free", 0);
        due(0, "free", 0);
        due(1, "count", 2);
        planIs(1, NONE, NONE, NONE, NONE, NONE, 0);
        due(1, "free", 5);
        due(0, "count", 2);
        due(NONE, "plan");
        told("due", 0, 4, 5, 1);
        due(4, "plan");
    }

    // ---- promise 34

    void p34Roads() {
        says(34, "The ROAD between two MILLS takes d days: what it took.");
        within(0, 5, OUTSIDE, 2, "road", 0, 5, 0);
        due(0, "road", 0, 5, 5);
        due(5, "road", 5, 0, 1);
        due(1, "road", 0, 5, 0);
        int d = 0;
        for (int a = 0; a < 6; a++) {
            for (int b = 0; b < a; b++) {
                due(0, "road", a, b, d % 6);
                d++;
            }
        }
        d = 0;
        for (int a = 0; a < 6; a++) {
            for (int b = 0; b < a; b++) {
                due(d % 6, "road", b, a, 0);
                d++;
            }
        }
    }

    void p34Refusals() {
        says(34, "UNKNOWN: a, b; OUTSIDE: d, or they are the same.");
        told("road", 2, 4, 3);
        within(0, 5, UNKNOWN, 0, "road", 0, 3, 1);
        within(0, 5, UNKNOWN, 1, "road", 3, 0, 1);
        for (int m = 0; m < 6; m++) {
            refused(OUTSIDE, "road", m, m, 1);
        }
        refused(UNKNOWN, "road", 6, 6, 1);
        refused(UNKNOWN, "road", -1, -1, 6);
        refused(UNKNOWN, "road", 0, 6, -1);
        refused(OUTSIDE, "road", 4, 4, 6);
        due(3, "road", 4, 2, 3);
    }

    // ---- promise 35

    void p35Dressers() {
        says(35, "How many DRESSERS there are becomes n: what it was. OUTSIDE.");
        within(1, 3, OUTSIDE, 0, "dressers", 1);
        due(1, "dressers", 3);
        refused(OUTSIDE, "dressers", 4);
        refused(OUTSIDE, "dressers", 0);
        due(3, "dressers", 2);
        due(2, "dressers", 1);
        due(1, "count", 3);
    }

    void p35EachTakesSome() {
        says(35, "How many DRESSERS there are becomes n: what it was.");
        for (int m = 0; m < 6; m++) {
            told("due", m, 0, 30, 1);
        }
        due(5, "plan");
        told("dressers", 2);
        due(2, "plan");
        told("dressers", 3);
        planIs(1, new int[] {0, 0, 1, 1, 2, 2}, new int[] {0, 1, 0, 1, 0, 1});
    }

    // ---- promise 36

    void p36NoMill() {
        says(36, "(NONE: no MILL is to be DRESSED, or there is no PLAN)");
        planIs(NONE, NONE, NONE);
        told("due", 0, 0, 0, 1);
        planIs(0, 0, NONE);
        told("due", 5, 0, 0, 1);
        planIs(NONE, NONE, NONE, NONE, NONE, NONE, NONE);
        told("dressers", 2);
        due(0, "plan");
    }

    void p36Days() {
        says(36, "begun not before the first, done not behind the second");
        told("due", 0, 3, 9, 2);
        planIs(4, 3);
        told("due", 0, 3, 4, 2);
        planIs(4, 3);
        told("due", 0, 28, 30, 3);
        planIs(30, 28);
        told("due", 1, 0, 30, 3);
        planIs(30, 28, 0);
        told("due", 1, 26, 28, 3);
        due(NONE, "plan");
        told("due", 1, 25, 27, 3);
        planIs(30, 28, 25);
    }

    void p36FirstMill() {
        says(36, "begin on day 0 at the first MILL each goes to");
        allRoads(5);
        told("due", 3, 0, 0, 1);
        planIs(0, NONE, NONE, NONE, 0);
        told("dressers", 2);
        told("due", 0, 0, 0, 1);
        planIs(0, 0, NONE, NONE, 0);
    }

    void p36NextMill() {
        says(36, "behind one MILL (its last day) and the days of the ROAD the next one may be begun on the next day");
        told("due", 0, 0, 30, 2);
        told("due", 1, 0, 30, 1);
        planIs(2, 0, 2);
        told("road", 0, 1, 1);
        planIs(3, 0, 3);
        told("road", 1, 0, 5);
        planIs(7, 0, 7);
        told("due", 1, 0, 7, 1);
        planIs(7, 0, 7);
        // it must go first now
        told("due", 1, 0, 6, 1);
        planIs(7, 6, 0);
        told("due", 0, 0, 7, 2);
        planIs(7, 6, 0);
        told("due", 0, 0, 6, 2);
        due(NONE, "plan");
    }

    // a way by another MILL would be shorter, but that MILL is not to be DRESSED
    void p36RoadsAreNotJoined() {
        says(36, "ROADS between MILLS take 0 to 5 days");
        told("road", 0, 1, 5);
        told("due", 0, 0, 30, 1);
        told("due", 1, 0, 30, 1);
        due(6, "plan");
        told("due", 2, 0, 30, 1);
        planIs(2, 0, 2, 1);
    }

    void p36AsEarlyAsMayBe() {
        says(36, "each begun as early as may be");
        told("due", 0, 4, 30, 1);
        told("due", 1, 2, 30, 1);
        told("dressers", 2);
        planIs(4, new int[] {0, 0}, new int[] {4, 2});
    }

    void p36SixInARow() {
        says(36, "THE BEST: the one whose latest day is least");
        for (int m = 0; m < 6; m++) {
            told("due", m, 0, 5, 1);
        }
        planIs(5, 0, 1, 2, 3, 4, 5);
        told("due", 0, 5, 5, 1);
        planIs(5, 5, 0, 1, 2, 3, 4);
        told("due", 5, 0, 0, 1);
        due(5, "plan");
        told("due", 4, 0, 0, 1);
        due(NONE, "plan");
        told("dressers", 2);
        due(5, "plan");
    }

    void p36Latest30() {
        says(36, "THE BEST PLAN's latest day");
        allRoads(5);
        for (int m = 0; m < 5; m++) {
            told("due", m, 0, 30, 1);
        }
        due(24, "plan");
        told("due", 5, 0, 30, 1);
        due(30, "plan");
        told("due", 5, 0, 30, 2);
        due(NONE, "plan");
        told("dressers", 3);
        due(7, "plan");
    }

    void p36TwentyTimes() {
        says(36, "STATE: it was done 20 times ever with given(), begun().");
        told("due", 0, 0, 5, 1);
        for (int i = 0; i < 6; i++) {
            due(0, "plan");
            due(0, "given", 0);
            due(NONE, "begun", 1);
        }
        refused(UNKNOWN, "given", 6);
        refused(UNKNOWN, "begun", -1);
        due(18, "count", 5);
        due(0, "plan");
        due(19, "count", 5);
        due(0, "begun", 0);
        due(20, "count", 5);
        refused(STATE, "plan");
        refused(STATE, "given", 0);
        refused(STATE, "given", 5);
        refused(STATE, "begun", 0);
        refused(UNKNOWN, "given", 6);
        refused(UNKNOWN, "begun", -1);
        told("free", 0);
        refused(STATE, "plan");
        due(20, "count", 5);
    }

    void p36TwentyTimesWithoutMills() {
        says(36, "STATE: it was done 20 times ever with given(), begun().");
        for (int i = 0; i < 20; i++) {
            due(NONE, "plan");
        }
        refused(STATE, "plan");
        refused(STATE, "given", 0);
        refused(STATE, "begun", 5);
    }

    // ---- promise 37

    void p37Mills() {
        says(37, "To which DRESSER THE BEST PLAN gives a MILL; NONE. UNKNOWN: m; STATE, as plan().");
        within(0, 5, UNKNOWN, 0, "given", 0);
        told("due", 0, 0, 5, 1);
        told("due", 5, 0, 5, 1);
        due(0, "given", 0);
        due(0, "given", 5);
        due(NONE, "given", 1);
        due(3, "count", 5);
        for (int i = 3; i < 20; i++) {
            due(NONE, "given", 4);
        }
        refused(STATE, "given", 0);
        refused(STATE, "given", 4);
        refused(UNKNOWN, "given", 6);
    }

    void p37DayBeforeDresser() {
        says(37, "THE BEST: the one whose latest day is least; of like ones the one that gives");
        told("dressers", 3);
        told("due", 0, 0, 30, 1);
        due(0, "given", 0);
        told("due", 1, 0, 30, 1);
        planIs(0, new int[] {0, 1}, new int[] {0, 0});
    }

    // day 5 is the latest anyway, so one may do both, as long as the ROAD lets him be there
    void p37OneDoesAllHeMay() {
        says(37, "of like ones the one that gives the least MILL to the least DRESSER");
        told("dressers", 3);
        told("due", 0, 0, 30, 1);
        told("due", 1, 5, 30, 1);
        planIs(5, new int[] {0, 0}, new int[] {0, 5});
        told("road", 0, 1, 4);
        planIs(5, new int[] {0, 0}, new int[] {0, 5});
        told("road", 0, 1, 5);
        planIs(5, new int[] {0, 1}, new int[] {0, 5});
    }

    void p37LeastMillToLeastDresser() {
        says(37, "the one that gives the least MILL to the least DRESSER, then the next MILL, and so on");
        sharedByTwo(1, 1, 2, new int[] {0, 0, 1}, new int[] {0, 1, 0});
        sharedByTwo(2, 1, 1, new int[] {0, 1, 1}, new int[] {0, 0, 1});
        sharedByTwo(1, 2, 1, new int[] {0, 1, 0}, new int[] {0, 0, 1});
    }

    // MILLS 0 to 2 take so many days
    private void sharedByTwo(int first, int second, int third, int[] given, int[] begun) {
        anew();
        told("dressers", 2);
        told("due", 0, 0, 30, first);
        told("due", 1, 0, 30, second);
        told("due", 2, 0, 30, third);
        planIs(1, given, begun);
    }

    // 0 and 3 can't be done by one, nor 1 and 2: 0 with 1, and 2 with 3
    void p37SharesByRoads() {
        says(37, "the one that gives the least MILL to the least DRESSER");
        told("dressers", 2);
        for (int m = 0; m < 4; m++) {
            told("due", m, 0, 30, 1);
        }
        told("road", 0, 3, 5);
        told("road", 1, 2, 5);
        planIs(1, new int[] {0, 0, 1, 1}, new int[] {0, 1, 0, 1});
        anew();
        told("dressers", 3);
        for (int m = 0; m < 4; m++) {
            told("due", m, 0, 30, 1);
        }
        told("road", 0, 1, 5);
        planIs(1, new int[] {0, 1, 0, 1}, new int[] {0, 0, 1, 1});
    }

    // MILL 0 and others between are not to be DRESSED
    void p37SomeMills() {
        says(37, "A PLAN gives each MILL that is to be DRESSED to a DRESSER");
        told("dressers", 2);
        told("due", 3, 0, 30, 1);
        told("due", 5, 0, 30, 1);
        planIs(0, new int[] {NONE, NONE, NONE, 0, NONE, 1}, new int[] {NONE, NONE, NONE, 0, NONE, 0});
        anew();
        told("dressers", 3);
        told("due", 1, 0, 30, 1);
        told("due", 4, 0, 30, 1);
        told("due", 5, 0, 30, 1);
        planIs(0, new int[] {NONE, 0, NONE, NONE, 1, 2}, new int[] {NONE, 0, NONE, NONE, 0, 0});
    }

    void p37NoPlan() {
        says(37, "To which DRESSER THE BEST PLAN gives a MILL; NONE.");
        told("due", 0, 0, 0, 1);
        told("due", 1, 0, 0, 1);
        due(NONE, "given", 0);
        due(NONE, "given", 1);
        told("dressers", 2);
        due(0, "given", 0);
        due(1, "given", 1);
    }

    // ---- promise 38

    void p38Mills() {
        says(38, "On which day a MILL is begun by THE BEST PLAN; NONE. UNKNOWN: m; STATE, as plan().");
        within(0, 5, UNKNOWN, 0, "begun", 0);
        told("due", 0, 0, 30, 1);
        told("due", 5, 30, 30, 1);
        due(0, "begun", 0);
        due(30, "begun", 5);
        due(NONE, "begun", 1);
        for (int i = 3; i < 20; i++) {
            due(NONE, "begun", 4);
        }
        refused(STATE, "begun", 0);
        refused(STATE, "begun", 4);
        refused(UNKNOWN, "begun", 6);
    }

    void p38OrderOfDresser0() {
        says(38, "of like ones, the order of DRESSER 0's MILLS by their numbers least first");
        for (int m = 0; m < 4; m++) {
            told("due", m, 0, 30, 1);
        }
        planIs(3, 0, 1, 2, 3);
        // 1 0 2 3 and others are done by day 3, with 0 first it would be 4
        told("due", 0, 1, 30, 1);
        planIs(3, 1, 0, 2, 3);
        told("due", 0, 3, 30, 1);
        planIs(3, 3, 0, 1, 2);
        told("due", 0, 3, 30, 2);
        planIs(4, 3, 0, 1, 2);
    }

    // 0 is done on day 9 whatever comes before it: 1 2 0 by numbers, though 2 1 0 has 1 begun sooner than 2 may be
    void p38LeastOrderInTime() {
        says(38, "the order of DRESSER 0's MILLS by their numbers least first");
        told("due", 0, 9, 9, 1);
        told("due", 1, 3, 30, 1);
        told("due", 2, 2, 30, 1);
        planIs(9, 9, 3, 4);
        told("due", 1, 3, 3, 1);
        planIs(9, 9, 3, 4);
        told("due", 2, 2, 3, 1);
        planIs(9, 9, 3, 2);
    }

    void p38OrderOfTheOthers() {
        says(38, "by their numbers least first, then 1's, 2's.");
        told("dressers", 2);
        told("due", 0, 0, 30, 3);
        for (int m = 1; m < 4; m++) {
            told("due", m, 0, 30, 1);
        }
        planIs(2, new int[] {0, 1, 1, 1}, new int[] {0, 0, 1, 2});
        told("due", 1, 1, 30, 1);
        planIs(2, new int[] {0, 1, 1, 1}, new int[] {0, 1, 0, 2});
        anew();
        told("dressers", 3);
        told("due", 0, 0, 30, 3);
        told("due", 1, 0, 30, 3);
        for (int m = 2; m < 5; m++) {
            told("due", m, 0, 30, 1);
        }
        told("due", 2, 2, 30, 1);
        planIs(2, new int[] {0, 1, 2, 2, 2}, new int[] {0, 0, 2, 0, 1});
    }

    // DRESSER 1 has till day 9 too: 1 before 2, though 2 before 1 is done a day sooner
    void p38NoHasteBeforeTheLatestDay() {
        says(38, "of like ones, the order of DRESSER 0's MILLS");
        told("dressers", 2);
        allRoads(5);
        told("road", 1, 2, 0);
        told("due", 0, 7, 9, 3);
        told("due", 1, 6, 30, 1);
        told("due", 2, 5, 30, 1);
        planIs(9, new int[] {0, 1, 1}, new int[] {7, 6, 7});
    }
}
