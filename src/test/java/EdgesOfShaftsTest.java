/** Terms, part 4: the shaft, mending and the next floor; promises 20 to 25 at their edges. */
public final class EdgesOfShaftsTest {
    private static final int NONE = ThreeMasters.NONE, BAD = ThreeMasters.BAD, ANY_BAD = -100002, ANY_NOT = -100003;
    /** OFF 0 at all sills, so that shims alone make it. */
    private static final String FOUR = "9f=0;9f=0;9f=0;9f=0";

    public static void main(String[] args) {
        lean();
        runs();
        runsFromTo();
        lifts();
        longest();
        longestOfLikeOnes();
        mendedAtSills();
        mendedBelowTheLast();
        mendedOverWhatTheyHave();
        costs();
        noMoreThan99();
        noMoreThan99OfMany();
        leastRow();
        leastRowForNothing();
        mendedTells();
        next();
        nextOfLikeOnes();
        nextFromTheTop();
        Due.end();
    }

    private static void lean() {
        Due.says("SHAFT: of each SILL (0 to the top) it is LEANING by some GRAINS (-99 to 99; 0 at first).");
        Due.says("A SILL (0 to 10, whether it is there or not) is LEANING, as any number: what it was. BAD: -100002.");
        ThreeMasters x = new ThreeMasters();
        for (int sill = -1; sill <= 11; sill++) {
            int was = 0;
            for (int v : new int[] {-100, -99, -98, 98, 99, 100, -1, 1, 0, 7}) {
                boolean may = sill >= 0 && sill <= 10 && v >= -99 && v <= 99;
                Due.is("lean(" + sill + ", " + v + ")", x.lean(sill, v), may ? was : ANY_BAD);
                was = may ? v : was;
            }
        }
    }

    private static ThreeMasters leaning(String text, int... by) {
        ThreeMasters x = Due.plan(text);
        for (int sill = 0; sill < by.length; sill++) {
            x.lean(sill, by[sill]);
        }
        return x;
    }

    private static void runs() {
        Due.says("A lift of WIDTH w (1 to 999) RUNS in it from a FLOOR to another (not less), if for all SILLS from the one to the "
            + "other together the greatest LEANING less the least is no more than ROOM (1 to 999; 200 at first) less w.");
        Due.says("Whether a lift RUNS: 1, 0. BAD.");
        ThreeMasters x = leaning(FOUR, 99, -99, 0, 0, 1);
        int[][] want = {{0, 0, 0, BAD}, {1, 0, 0, 1}, {1, 0, 1, 1}, {2, 0, 1, 1}, {3, 0, 1, 0}, {2, 0, 4, 1}, {3, 0, 4, 0},
            {101, 1, 2, 1}, {102, 1, 2, 0}, {200, 2, 3, 1}, {201, 2, 3, 0}, {199, 3, 4, 1}, {200, 3, 4, 0}, {200, 4, 4, 1},
            {201, 4, 4, 0}, {999, 4, 4, 0}, {1000, 4, 4, BAD}, {-1, 0, 0, BAD}};
        for (int[] w : want) {
            Due.is("runs(" + w[0] + ", " + w[1] + ", " + w[2] + ")", x.runs(w[0], w[1], w[2]), w[3]);
        }
        x.set(1, 999);
        Due.is("ROOM 999: runs(999, 2, 3)", x.runs(999, 2, 3), 1);
        Due.is("ROOM 999: runs(999, 3, 4)", x.runs(999, 3, 4), 0);
        Due.is("ROOM 999: runs(998, 3, 4)", x.runs(998, 3, 4), 1);
        x.set(1, 1);
        Due.is("ROOM 1: runs(1, 2, 3)", x.runs(1, 2, 3), 1);
        Due.is("ROOM 1: runs(1, 3, 4)", x.runs(1, 3, 4), 0);
        Due.is("ROOM 1: runs(2, 2, 3)", x.runs(2, 2, 3), 0);
    }

    private static void runsFromTo() {
        ThreeMasters x = leaning(FOUR, 0, 0, 0, 0, 0, 99);
        for (int from = -1; from <= 5; from++) {
            for (int to = -1; to <= 5; to++) {
                boolean may = from >= 0 && to <= 4 && from <= to;
                Due.is("runs(200, " + from + ", " + to + ")", x.runs(200, from, to), may ? 1 : BAD);
            }
        }
        ThreeMasters y = leaning(FOUR, 5, 0, 0, 0, 5);
        Due.is("the first SILL counts", y.runs(200, 0, 1), 0);
        Due.is("those between alone", y.runs(200, 1, 3), 1);
        Due.is("the last SILL counts", y.runs(200, 3, 4), 0);
        ThreeMasters z = leaning(FOUR, 0, 0, -5, 0, 0);
        Due.is("those between count", z.runs(200, 1, 3), 0);
        Due.is("5 less", z.runs(195, 1, 3), 1);
        Due.is("all below 0", leaning(FOUR, -9, -5, -7).runs(196, 0, 2), 1);
        Due.is("all below 0, one more", leaning(FOUR, -9, -5, -7).runs(197, 0, 2), 0);
    }

    private static void liftsAre(int room, int want, int... by) {
        ThreeMasters x = leaning(FOUR, by);
        x.set(1, room);
        Due.is("ROOM " + room + ": lifts()", x.lifts(), want);
        if (want > 0) {
            Due.is("the widest RUNS", x.runs(want, 0, 4), 1);
        }
        Due.is("one wider does not", x.runs(Math.min(999, want + 1), 0, 4), want == 999 ? 1 : 0);
    }

    private static void lifts() {
        Due.says("LIFTS: the widest that RUNS from 0 to the top (0: none);");
        Due.says("`int lifts()`: LIFTS.");
        liftsAre(200, 200, 0, 0, 0, 0, 0);
        liftsAre(200, 199, 0, 0, 0, 0, 1);
        liftsAre(200, 199, -1, 0, 0, 0, 0);
        liftsAre(200, 2, 99, 0, 0, -99, 0);
        liftsAre(199, 1, 99, 0, 0, -99, 0);
        liftsAre(198, 0, 99, 0, 0, -99, 0);
        liftsAre(197, 0, 99, 0, 0, -99, 0);
        liftsAre(999, 999, 50, 50, 50, 50, 50);
        liftsAre(999, 998, 50, 50, 49, 50, 50);
        liftsAre(1, 1, -9, -9, -9, -9, -9);
        liftsAre(1, 0, -9, -9, -9, -9, -8);
        liftsAre(200, 200, 0, 0, 0, 0, 0, 99);
        Due.is("no FLOORS: SILL 0 alone", leaning("", 99, -99).lifts(), 200);
    }

    private static void longestIs(ThreeMasters x, int w, int sills, int from) {
        Due.is("longest(" + w + ", 0)", x.longest(w, 0), sills);
        Due.is("longest(" + w + ", 1)", x.longest(w, 1), from);
    }

    private static void longest() {
        Due.says("LONGEST: by how many SILLS, one behind the other, one of WIDTH w RUNS at most;");
        Due.says("LONGEST: how many SILLS (what = 0), from which on (1; NONE: by none). BAD.");
        ThreeMasters x = leaning(FOUR, 0, 10, 12, 11, 0, 99);
        longestIs(x, 1, 5, 0);
        longestIs(x, 188, 5, 0);
        longestIs(x, 189, 3, 1);
        longestIs(x, 198, 3, 1);
        longestIs(x, 199, 2, 2);
        longestIs(x, 200, 1, 0);
        longestIs(x, 201, 0, NONE);
        longestIs(x, 999, 0, NONE);
        longestIs(x, 0, BAD, BAD);
        longestIs(x, 1000, BAD, BAD);
        Due.is("longest(1, -1)", x.longest(1, -1), BAD);
        Due.is("longest(1, 2)", x.longest(1, 2), BAD);
        ThreeMasters none = leaning("", 5, 5);
        longestIs(none, 200, 1, 0);
        longestIs(none, 201, 0, NONE);
        none.set(1, 999);
        longestIs(none, 999, 1, 0);
        longestIs(leaning(FOUR + ";" + FOUR + ";9f=0;9f=0"), 200, 11, 0);
    }

    private static void longestOfLikeOnes() {
        Due.says("from which on, of like ones the least.");
        longestIs(leaning(FOUR, 0, 0, 5, 5, 0), 200, 2, 0);
        longestIs(leaning(FOUR, 0, 1, 1, 2, 2), 200, 2, 1);
        longestIs(leaning(FOUR, 0, 1, 2, 2, 2), 200, 3, 2);
        longestIs(leaning(FOUR, 0, 5, 0, 5, 0), 200, 1, 0);
        longestIs(leaning(FOUR, 0, 5, 0, 9, 9), 200, 2, 3);
        longestIs(leaning(FOUR, 0, 5, 5, 10, 10), 195, 4, 1);
        // SILLS 0 to 2, 1 to 3 and 2 to 4 all keep within 5.
        longestIs(leaning(FOUR, 0, 3, 5, 8, 10), 195, 3, 0);
    }

    private static ThreeMasters offBy(int... off) {
        ThreeMasters x = Due.plan(FOUR);
        for (int f = 0; f < off.length; f++) {
            x.shim(f, off[f] - (f == 0 ? 0 : off[f - 1]));
        }
        return x;
    }

    private static void mendedIs(ThreeMasters x, int sills, int cost, int... row) {
        Due.is("mended(" + sills + ", NONE)", x.mended(sills, NONE), cost);
        for (int f = 0; f < row.length; f++) {
            Due.is("mended(" + sills + ", " + f + ")", x.mended(sills, f), row[f]);
        }
    }

    private static void mendedAtSills() {
        Due.says("MENDED: what it takes that OFF is 0 at SILLS told as bits (0 to 1023, of FLOORS 1 on, bit 0 for the SILL of FLOOR "
            + "1; those beyond the top are left aside):");
        ThreeMasters x = offBy(-1, -3, -6, -10);
        mendedIs(x, 0, 0, 0, 0, 0, 0);
        mendedIs(x, 1, 2, 1, 0, 0, 0);
        mendedIs(x, 2, 6, 0, 3, 0, 0);
        mendedIs(x, 4, 12, 0, 0, 6, 0);
        mendedIs(x, 8, 20, 0, 0, 0, 10);
        mendedIs(x, 15, 20, 1, 2, 3, 4);
        mendedIs(x, 16, 0, 0, 0, 0, 0);
        mendedIs(x, 16 + 1, 2, 1, 0, 0, 0);
        mendedIs(x, 1008, 0, 0, 0, 0, 0);
        mendedIs(x, 1023, 20, 1, 2, 3, 4);
        mendedIs(x, -1, ANY_BAD, ANY_BAD);
        mendedIs(x, 1024, ANY_BAD, ANY_BAD);
        mendedIs(x, 1025, ANY_BAD, ANY_BAD);
        ThreeMasters ten = Due.plan(FOUR + ";" + FOUR + ";9f=0;9f=0");
        ten.shim(9, -7);
        mendedIs(ten, 511, 0, 0, 0, 0, 0, 0, 0, 0, 0, 0, 0);
        mendedIs(ten, 512, 14, 0, 0, 0, 0, 0, 0, 0, 0, 0, 7);
        mendedIs(new ThreeMasters(), 1023, 0, ANY_BAD);
    }

    private static void mendedBelowTheLast() {
        Due.says("SHIMS of FLOORS below the last of these SILLS,");
        ThreeMasters x = offBy(3, 0, 0, -5);
        // At SILL 1 alone only FLOOR 0 is touched, though what is above goes off by it.
        mendedIs(x, 1, 15, -3, 0, 0, 0);
        mendedIs(x, 2, 0, 0, 0, 0, 0);
        mendedIs(x, 3, 15 + 6, -3, 3, 0, 0);
        mendedIs(x, 5, 15 + 6, -3, 0, 3, 0);
        mendedIs(x, 9, 15 + 16, -3, 0, 0, 8);
        x.set(2, 0);
        x.set(3, 0);
        mendedIs(x, 1, 0, -3, 0, 0, 0);
        mendedIs(x, 2, 0, -99, 99, 0, 0);
    }

    private static void mendedOverWhatTheyHave() {
        Due.says("over and above what they have,");
        ThreeMasters x = Due.plan("9f=0;9f+5=0");
        x.shim(0, 99);
        x.shim(1, -94);
        mendedIs(x, 1, 495, -99, 0);
        mendedIs(x, 2, 0, 0, 0);
        mendedIs(x, 3, 495 + 198, -99, 99);
        Due.is("SHIMS stay", x.floor(0, 5), 99);
        x.shim(0, 0);
        mendedIs(x, 1, 0, 0, 0);
        mendedIs(x, 2, 198, 0, 99);
    }

    private static void costs() {
        Due.says("each to be put in (a GRAIN costs SHIM, 0 to 9; 2 at first) or cut off (a GRAIN costs CUT, 0 to 9; 5 at first),");
        ThreeMasters x = offBy(7, 0, 0, 0);
        mendedIs(x, 3, 35 + 14, -7, 7);
        int[][] want = {{0, 0, 0}, {0, 9, 63}, {9, 0, 63}, {9, 9, 126}, {1, 0, 7}, {0, 1, 7}};
        for (int[] w : want) {
            x.set(2, w[0]);
            x.set(3, w[1]);
            mendedIs(x, 3, w[2], -7, 7);
        }
        Due.is("SHIM 10", x.set(2, 10), BAD);
        Due.is("CUT 10", x.set(3, 10), BAD);
        Due.is("SHIM -1", x.set(2, -1), BAD);
        mendedIs(x, 1, 7, -7, 0);
    }

    /** FLOORS that were MEANT to be 99 and have nothing BUILT but their SHIMS. */
    private static ThreeMasters unbuilt(int floors, int... shims) {
        ThreeMasters x = new ThreeMasters();
        x.measure(0, 0, 1);
        x.measure(1, 0, 999);
        for (int f = 0; f < floors; f++) {
            Due.typed(x, f == 0 ? "99f=3" : ";99f=3");
        }
        for (int f = 0; f < shims.length; f++) {
            x.shim(f, shims[f]);
        }
        return x;
    }

    private static void noMoreThan99() {
        Due.says("each no more than 99 either way: the least COST;");
        Due.says("NONE: it cannot be.");
        mendedIs(unbuilt(1, 1), 1, 196, 98);
        mendedIs(unbuilt(1, 0), 1, 198, 99);
        mendedIs(unbuilt(1, -1), 1, NONE, ANY_NOT);
        ThreeMasters x = Due.plan("1f=4");
        x.measure(0, 0, 1);
        int[] sizes = {99, 100, 101};
        int[] costs = {490, 495, NONE};
        int[] rows = {-98, -99, ANY_NOT};
        for (int i = 0; i < 3; i++) {
            x.measure(1, 0, sizes[i]);
            mendedIs(x, 1, costs[i], rows[i]);
        }
        Due.is("BAD ahead of NOT", x.mended(1, 1), ANY_BAD);
        mendedIs(x, 0, 0, 0);
    }

    private static void noMoreThan99OfMany() {
        mendedIs(unbuilt(2, 0, 1), 2, 394, 98, 99);
        mendedIs(unbuilt(2, 0, 0), 2, 396, 99, 99);
        mendedIs(unbuilt(2, 0, -1), 2, NONE, ANY_NOT, ANY_NOT, ANY_BAD);
        // Together it could be, but not at the SILL between, nor for the FLOOR above it alone.
        mendedIs(unbuilt(2, -1, 1), 2, 396, 99, 99);
        mendedIs(unbuilt(2, -1, 1), 3, NONE, ANY_NOT, ANY_NOT);
        mendedIs(unbuilt(2, 1, -1), 3, NONE, ANY_NOT, ANY_NOT);
        mendedIs(unbuilt(2, 1, -1), 1, 196, 98, 0);
        mendedIs(unbuilt(2, 1, -1), 1 + 4, 196, 98, 0);
        mendedIs(unbuilt(10), 512, 1980, 99, 99, 99, 99, 99, 99, 99, 99, 99, 99);
        mendedIs(unbuilt(10), 1023, 1980, 99, 99, 99, 99, 99, 99, 99, 99, 99, 99);
        mendedIs(unbuilt(10, 0, 0, 0, 0, 1), 512, 1978, 98, 99, 99, 99, 99, 99, 99, 99, 99, 99);
        mendedIs(unbuilt(10, 0, 0, 0, 0, -1), 512, NONE, ANY_NOT);
        mendedIs(unbuilt(10, 0, 0, 0, 0, -1), 1023, NONE, ANY_NOT);
        mendedIs(unbuilt(10, 0, 0, 0, 0, -1), 15, 792, 99, 99, 99, 99, 0, 0);
    }

    private static void leastRow() {
        Due.says("of like ones the least row (by SHIMS from FLOOR 0 on);");
        // Put in as late, cut off as early as can be.
        mendedIs(offBy(0, 0, 0, -1), 8, 2, 0, 0, 0, 1);
        mendedIs(offBy(0, 0, 0, 1), 8, 5, -1, 0, 0, 0);
        mendedIs(offBy(0, 0, -99, -99), 8, 198, 0, 0, 0, 99);
        mendedIs(offBy(0, 0, -99, -100), 8, 200, 0, 0, 1, 99);
        mendedIs(offBy(0, -99, -198, -198), 8, 396, 0, 0, 99, 99);
        mendedIs(offBy(0, -99, -198, -199), 8, 398, 0, 1, 99, 99);
        mendedIs(offBy(0, 0, 99, 99), 8, 495, -99, 0, 0, 0);
        mendedIs(offBy(0, 0, 99, 100), 8, 500, -99, -1, 0, 0);
        mendedIs(offBy(0, 99, 198, 199), 8, 995, -99, -99, -1, 0);
        // Between two SILLS that are told each for itself.
        mendedIs(offBy(0, -3, 0, 4), 2 + 8, 6 + 35, 0, 3, -7, 0);
        mendedIs(offBy(0, 3, 0, -4), 2 + 8, 15 + 14, -3, 0, 0, 7);
        ThreeMasters x = offBy(0, -3, 0, 4);
        x.set(2, 0);
        mendedIs(x, 2 + 8, 35, 0, 3, -7, 0);
        x.set(2, 1);
        x.set(3, 0);
        mendedIs(x, 2 + 8, 3, 0, 3, -7, 0);
    }

    private static ThreeMasters forNothing(ThreeMasters x) {
        x.set(2, 0);
        x.set(3, 0);
        return x;
    }

    private static void leastRowForNothing() {
        mendedIs(forNothing(offBy(0, 0, 0, 0)), 1, 0, 0, 0, 0, 0);
        mendedIs(forNothing(offBy(0, 0, 0, 0)), 2, 0, -99, 99, 0, 0);
        mendedIs(forNothing(offBy(0, 0, 0, 0)), 4, 0, -99, 0, 99, 0);
        mendedIs(forNothing(offBy(0, 0, 0, 0)), 8, 0, -99, -99, 99, 99);
        mendedIs(forNothing(offBy(0, 0, 0, 0)), 15, 0, 0, 0, 0, 0);
        mendedIs(forNothing(offBy(0, 0, 0, -99)), 8, 0, -99, 0, 99, 99);
        mendedIs(forNothing(offBy(0, 0, 0, 99)), 8, 0, -99, -99, 0, 99);
        mendedIs(forNothing(offBy(0, 0, 0, 0)), 2 + 8, 0, -99, 99, -99, 99);
        mendedIs(forNothing(unbuilt(2)), 2, 0, 99, 99);
        mendedIs(forNothing(unbuilt(2, 0, -1)), 2, NONE, ANY_NOT, ANY_NOT);
        mendedIs(forNothing(unbuilt(2, 0, 1)), 2, 0, 98, 99);
    }

    private static void mendedTells() {
        Due.says("MENDED: COST (floor = NONE; NONE), SHIM of a FLOOR, as any number. BAD: -100002; NOT: -100003: it cannot be "
            + "(of a FLOOR).");
        ThreeMasters x = offBy(5, 0, 0, 0);
        int[] want = {ANY_BAD, 25, -5, 0, 0, 0, ANY_BAD};
        for (int f = -2; f <= 4; f++) {
            Due.is("mended(1, " + f + ")", x.mended(1, f), want[f + 2]);
        }
        ThreeMasters not = unbuilt(2, -1, 0);
        int[] due = {ANY_BAD, NONE, ANY_NOT, ANY_NOT, ANY_BAD};
        for (int f = -2; f <= 2; f++) {
            Due.is("mended(1, " + f + "), it cannot be", not.mended(1, f), due[f + 2]);
        }
        Due.is("no SILL told, it can be", not.mended(0, 1), 0);
    }

    private static void nextIs(ThreeMasters x, int m, int way, int off) {
        Due.is("next(" + m + ", 0)", x.next(m, 0), way);
        Due.is("next(" + m + ", 1)", x.next(m, 1), off);
    }

    private static void next() {
        Due.says("NEXT: by which of the nine a FLOOR more that is MEANT to be m GRAINS (1 to 9999) would end nearest to where it "
            + "SHOULD (OFF of the top and its own),");
        Due.says("NEXT: which of the nine (what = 0), how far off (1). BAD.");
        ThreeMasters x = new ThreeMasters();
        nextIs(x, 0, BAD, BAD);
        nextIs(x, 1, 0, 1);
        nextIs(x, 2, 0, 2);
        // 9998 is 833 feet and 2, 222 ells and 8, 1110 spans and 8; 9999 is 1111 spans.
        nextIs(x, 9998, 7, 1);
        nextIs(x, 9999, 6, 0);
        nextIs(x, 10000, BAD, BAD);
        Due.is("next(1, -1)", x.next(1, -1), BAD);
        Due.is("next(1, 2)", x.next(1, 2), BAD);
        nextIs(Due.plan(FOUR + ";" + FOUR + ";9f=0;9f=0"), 45, 3, 0);
    }

    private static void nextOfLikeOnes() {
        Due.says("of like ones the least; how far off it would be.");
        ThreeMasters x = new ThreeMasters();
        nextIs(x, 12, 0, 0);
        nextIs(x, 36, 0, 0);
        nextIs(x, 45, 3, 0);
        nextIs(x, 9, 6, 0);
        nextIs(x, 180, 0, 0);
        // 42 is 6 from 36 and 48, 3 from 45 by ells up, by ells to the nearest, and by spans.
        nextIs(x, 42, 4, 3);
        // 11 is 1 from 12 by feet up, 2 from 9.
        nextIs(x, 11, 1, 1);
        nextIs(x, 10, 6, 1);
        // 21 is 3 from 24 and from 18: feet up ahead of feet to the nearest and of spans.
        nextIs(x, 21, 1, 3);
        // 30 is 6 from 24 and from 36, 3 from 27.
        nextIs(x, 30, 6, 3);
    }

    /** OFF of the top goes in; a SHIM of the FLOOR that is not there yet is left aside. */
    private static void nextFromTheTop() {
        // MEANT 100: by feet 96, 108, 96; by ells 90, 135, 90; by spans 99, 108, 99.
        int[][] want = {{0, 6, 1}, {1, 6, 0}, {2, 6, 1}, {3, 0, 1}, {4, 0, 0}, {6, 0, 2}, {7, 0, 3}, {8, 3, 2}, {10, 3, 0},
            {99, 3, 89}, {-1, 6, 2}, {-3, 6, 4}, {-4, 1, 4}, {-8, 1, 0}, {-21, 1, 13}, {-22, 4, 13}, {-35, 4, 0}, {-99, 4, 64}};
        for (int[] w : want) {
            ThreeMasters x = Due.plan("9f=0");
            x.shim(0, w[0]);
            x.shim(1, 5);
            nextIs(x, 100, w[1], w[2]);
        }
    }
}
