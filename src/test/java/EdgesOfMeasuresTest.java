/** Terms, part 1, up to the plan: measures, habits, and what is set; promises 2, 7 and 9 at their edges. */
public final class EdgesOfMeasuresTest {
    private static final int BAD = ThreeMasters.BAD;

    public static void main(String[] args) {
        sizes();
        grids();
        measureKeepsToItself();
        cutDown();
        cutUp();
        cutToTheNearest();
        partsInGrains();
        lengths();
        slackAndCosts();
        atTheLastCall();
        Due.end();
    }

    private static void inTurn(int k, int what, int first, int most) {
        ThreeMasters x = new ThreeMasters();
        int was = first;
        for (int v : new int[] {0, 1, 2, -1, most - 1, most + 1, most, most + 1, 0}) {
            boolean may = v >= 1 && v <= most;
            Due.is("measure(" + k + ", " + what + ", " + v + ")", x.measure(k, what, v), may ? was : BAD);
            was = may ? v : was;
        }
    }

    private static void sizes() {
        Due.says("MEASURES 0 to 2 have a SIZE in GRAINS (1 to 999; 12, 45, 9 at first)");
        Due.says("SIZE of a MEASURE (what = 0), GRID (1): what it was. BAD.");
        int[] first = {12, 45, 9};
        for (int k = 0; k < 3; k++) {
            inTurn(k, 0, first[k], 999);
        }
        for (int k : new int[] {-1, 3}) {
            Due.is("measure(" + k + ", 0, 12)", new ThreeMasters().measure(k, 0, 12), BAD);
        }
    }

    private static void grids() {
        Due.says("and a GRID (1 to 9 parts of it that a master works to; 1 at first).");
        for (int k = 0; k < 3; k++) {
            inTurn(k, 1, 1, 9);
        }
        for (int what : new int[] {-1, 2}) {
            Due.is("measure(0, " + what + ", 1)", new ThreeMasters().measure(0, what, 1), BAD);
        }
    }

    private static void measureKeepsToItself() {
        ThreeMasters x = new ThreeMasters();
        for (int k = 0; k < 3; k++) {
            x.measure(k, 0, 100 + k);
            x.measure(k, 1, 4 + k);
        }
        for (int k = 0; k < 3; k++) {
            Due.is("SIZE " + k, x.measure(k, 0, 1), 100 + k);
            Due.is("GRID " + k, x.measure(k, 1, 1), 4 + k);
        }
    }

    private static ThreeMasters sized(int size, int grid) {
        ThreeMasters x = new ThreeMasters();
        x.measure(1, 0, size);
        x.measure(1, 1, grid);
        return x;
    }

    /** Pairs of a LENGTH and what comes out. */
    private static void cuts(int size, int grid, int habit, int... pairs) {
        ThreeMasters x = sized(size, grid);
        for (int i = 0; i < pairs.length; i += 2) {
            Due.is("SIZE " + size + ", GRID " + grid + ": cut(" + pairs[i] + ", 1, " + habit + ")",
                x.cut(pairs[i], 1, habit), pairs[i + 1]);
        }
    }

    private static void cutDown() {
        Due.says("A HABIT cuts a LENGTH to k whole parts of a GRID of a SIZE: LENGTH times GRID by SIZE, 0 cut down,");
        cuts(10, 1, 0, 0, 0, 1, 0, 9, 0, 10, 10, 11, 10, 19, 10, 20, 20, 21, 20);
        cuts(12, 4, 0, 2, 0, 3, 3, 4, 3, 5, 3, 6, 6);
        cuts(1, 1, 0, 0, 0, 1, 1, 99999, 99999);
        cuts(999, 1, 0, 998, 0, 999, 999, 1000, 999, 1997, 999, 1998, 1998);
    }

    private static void cutUp() {
        Due.says("1 cut up,");
        cuts(10, 1, 1, 0, 0, 1, 10, 9, 10, 10, 10, 11, 20, 19, 20, 20, 20, 21, 30);
        cuts(12, 4, 1, 0, 0, 1, 3, 2, 3, 3, 3, 4, 6, 6, 6, 7, 9);
        cuts(1, 1, 1, 0, 0, 1, 1, 99999, 99999);
        cuts(999, 1, 1, 0, 0, 1, 999, 998, 999, 999, 999, 1000, 1998);
    }

    private static void cutToTheNearest() {
        Due.says("2 the whole number nearest to that (of two the lesser)");
        cuts(10, 1, 2, 0, 0, 4, 0, 5, 0, 6, 10, 9, 10, 10, 10, 14, 10, 15, 10, 16, 20, 25, 20, 26, 30);
        cuts(9, 1, 2, 4, 0, 5, 9, 13, 9, 14, 18);
        cuts(2, 1, 2, 0, 0, 1, 0, 2, 2, 3, 2, 4, 4);
        cuts(1, 1, 2, 0, 0, 1, 1, 2, 2, 99999, 99999);
        // Halves of parts: 1, 3 and 5 by 2.
        cuts(4, 2, 2, 1, 0, 2, 2, 3, 2, 4, 4, 5, 4, 6, 6);
        cuts(999, 1, 2, 499, 0, 500, 999, 1498, 999, 1499, 1998);
        cuts(998, 1, 2, 498, 0, 499, 0, 500, 998);
    }

    private static void partsInGrains() {
        Due.says("these are k times SIZE by GRID (cut) GRAINS.");
        // Parts of 10 by 3: 3, 6, 10, 13, 16, 20.
        cuts(10, 3, 0, 3, 0, 4, 3, 6, 3, 7, 6, 9, 6, 10, 10, 13, 10, 14, 13, 17, 16, 20, 20);
        cuts(10, 3, 1, 0, 0, 1, 3, 3, 3, 4, 6, 6, 6, 7, 10, 10, 10, 11, 13);
        cuts(10, 3, 2, 1, 0, 2, 3, 5, 3, 6, 6, 8, 6, 9, 10, 10, 10);
        // Parts finer than a GRAIN.
        cuts(1, 9, 0, 1, 1, 5, 5);
        cuts(1, 9, 1, 1, 1, 5, 5);
        cuts(2, 9, 1, 1, 1, 3, 3);
        cuts(2, 9, 2, 1, 0, 3, 2, 5, 4);
        cuts(999, 9, 0, 110, 0, 111, 111, 112, 111, 99999, 99900);
        cuts(999, 9, 1, 111, 111, 112, 222, 99999, 100011);
        cuts(999, 9, 2, 55, 0, 56, 111, 99999, 100011);
    }

    private static void lengths() {
        Due.says("A LENGTH (0 to 99999) cut by a HABIT to parts of a MEASURE. BAD.");
        // 8333 feet are 99996.
        int[][] want = {{-1, BAD, BAD, BAD}, {0, 0, 0, 0}, {1, 0, 12, 0}, {99995, 99984, 99996, 99996},
            {99996, 99996, 99996, 99996}, {99997, 99996, 100008, 99996}, {99998, 99996, 100008, 99996},
            {99999, 99996, 100008, 99996}, {100000, BAD, BAD, BAD}};
        ThreeMasters x = new ThreeMasters();
        for (int[] w : want) {
            for (int habit = 0; habit < 3; habit++) {
                Due.is("cut(" + w[0] + ", 0, " + habit + ")", x.cut(w[0], 0, habit), w[1 + habit]);
            }
        }
        int[] ofEach = {36, 0, 36};
        for (int k = -1; k <= 3; k++) {
            Due.is("cut(40, " + k + ", 0)", x.cut(40, k, 0), k < 0 || k > 2 ? BAD : ofEach[k]);
        }
        Due.is("cut(0, 0, -1)", x.cut(0, 0, -1), BAD);
        Due.is("cut(0, 0, 3)", x.cut(0, 0, 3), BAD);
    }

    private static void slackAndCosts() {
        Due.says("SLACK (what = 0), ROOM (1), SHIM (2), CUT (3): what it was. BAD.");
        int[] first = {0, 200, 2, 5};
        int[] least = {0, 1, 0, 0};
        int[] most = {99, 999, 9, 9};
        for (int what = 0; what < 4; what++) {
            ThreeMasters x = new ThreeMasters();
            int was = first[what];
            for (int v = least[what] - 1; v <= most[what] + 1; v += v == least[what] + 1 ? most[what] - least[what] - 2 : 1) {
                boolean may = v >= least[what] && v <= most[what];
                Due.is("set(" + what + ", " + v + ")", x.set(what, v), may ? was : BAD);
                was = may ? v : was;
                Due.is("count(" + (4 + what) + ")", x.count(4 + what), was);
            }
            for (int other = 0; other < 4; other++) {
                Due.is("set(" + other + ", 1) is by itself", x.set(other, 1), other == what ? most[what] : first[other]);
            }
        }
    }

    private static void atTheLastCall() {
        Due.says("An object is used for at most 512 calls after it has been made; what later calls answer is free.");
        ThreeMasters x = new ThreeMasters();
        for (int call = 1; call <= 511; call++) {
            Due.is("call " + call, x.measure(0, 0, call), call == 1 ? 12 : call - 1);
        }
        Due.is("call 512", x.measure(0, 0, 1), 511);
    }
}
