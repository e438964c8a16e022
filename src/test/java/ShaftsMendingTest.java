/** Promises 20 to 25: lean, runs, lifts, longest, mended, next. */
public final class ShaftsMendingTest {
    private static final int NONE = ThreeMasters.NONE, BAD = ThreeMasters.BAD, ANY_BAD = -100002, ANY_NOT = -100003;
    /** OFF 0 at all sills, so that shims alone make it. */
    private static final String FOUR = "9f=0;9f=0;9f=0;9f=0";

    public static void main(String[] args) {
        lean();
        runs();
        lifts();
        longest();
        mendedByOneSill();
        mendedBySeveral();
        mendedForNothing();
        mendedCannotBe();
        mendedRefuses();
        next();
        Due.end();
    }

    private static void lean() {
        ThreeMasters x = new ThreeMasters();
        Due.is("lean(0, 99)", x.lean(0, 99), 0);
        Due.is("lean(0, -99)", x.lean(0, -99), 99);
        Due.is("lean(10, 5)", x.lean(10, 5), 0);
        Due.is("lean(10, 6)", x.lean(10, 6), 5);
        int[][] bad = {{-1, 0}, {11, 0}, {0, 100}, {0, -100}, {Integer.MIN_VALUE, 0}, {0, Integer.MIN_VALUE}};
        for (int[] b : bad) {
            Due.is("bad lean", x.lean(b[0], b[1]), ANY_BAD);
        }
        Due.is("LEANING behind bad ones", x.lean(0, 0), -99);
    }

    private static ThreeMasters leaning(String text, int... leaning) {
        ThreeMasters x = Due.plan(text);
        for (int i = 0; i < leaning.length; i++) {
            x.lean(i, leaning[i]);
        }
        return x;
    }

    private static void runs() {
        ThreeMasters x = leaning(FOUR, 5, -5, 0, 40, 99, 99);
        Due.is("runs(190, 0, 2)", x.runs(190, 0, 2), 1);
        Due.is("runs(191, 0, 2)", x.runs(191, 0, 2), 0);
        Due.is("runs(195, 1, 2)", x.runs(195, 1, 2), 1);
        Due.is("runs(96, 0, 4)", x.runs(96, 0, 4), 1);
        Due.is("runs(97, 0, 4)", x.runs(97, 0, 4), 0);
        Due.is("runs(200, 4, 4)", x.runs(200, 4, 4), 1);
        Due.is("runs(1, 0, 4)", x.runs(1, 0, 4), 1);
        Due.is("runs(999, 4, 4)", x.runs(999, 4, 4), 0);
        x.set(1, 999);
        Due.is("runs(999, 4, 4), ROOM 999", x.runs(999, 4, 4), 1);
        int[][] bad = {{0, 0, 1}, {1000, 0, 1}, {1, -1, 1}, {1, 0, 5}, {1, 5, 5}, {1, 2, 1}, {-5, 0, 1},
            {Integer.MIN_VALUE, 0, 1}, {1, 0, Integer.MAX_VALUE}};
        for (int[] b : bad) {
            Due.is("bad runs", x.runs(b[0], b[1], b[2]), BAD);
        }
    }

    private static void lifts() {
        ThreeMasters x = leaning(FOUR, 5, -5, 0, 40, 94, 99);
        Due.is("lifts(), the SILL beyond the top aside", x.lifts(), 200 - 99);
        x.set(1, 100);
        Due.is("lifts(), 1 left", x.lifts(), 1);
        x.set(1, 99);
        Due.is("lifts(), nothing left", x.lifts(), 0);
        x.set(1, 1);
        Due.is("lifts(), less than nothing", x.lifts(), 0);
        Due.is("lifts(), SILL 0 leans most", leaning(FOUR, -99).lifts(), 101);
        Due.is("lifts(), no FLOORS", leaning("", 50, -50).lifts(), 200);
    }

    private static void longest() {
        ThreeMasters x = leaning(FOUR, 10, 0, 5, 5, 1, 1);
        int[][] want = {{1, 5, 0}, {190, 5, 0}, {191, 4, 1}, {195, 4, 1}, {196, 3, 2}, {197, 2, 2}, {200, 2, 2}, {201, 0, -1}, {999, 0, -1}};
        for (int[] w : want) {
            Due.is("longest(" + w[0] + ", 0)", x.longest(w[0], 0), w[1]);
            Due.is("longest(" + w[0] + ", 1)", x.longest(w[0], 1), w[2]);
        }
        ThreeMasters pairs = leaning(FOUR, 0, 0, 50, 50, 0);
        Due.is("longest(200, 0), no FLOORS", leaning("", 50, -50).longest(200, 0), 1);
        Due.is("longest(), of like ones the least", pairs.longest(200, 1), 0);
        int[][] bad = {{0, 0}, {1000, 0}, {1, -1}, {1, 2}};
        for (int[] b : bad) {
            Due.is("bad longest", x.longest(b[0], b[1]), BAD);
        }
    }

    private static ThreeMasters shimmed(String text, int... shims) {
        ThreeMasters x = Due.plan(text);
        for (int f = 0; f < shims.length; f++) {
            x.shim(f, shims[f]);
        }
        return x;
    }

    private static void mendedIs(ThreeMasters x, int sills, int cost, int... row) {
        Due.is("mended(" + sills + ", NONE)", x.mended(sills, NONE), cost);
        for (int f = 0; f < row.length; f++) {
            Due.is("mended(" + sills + ", " + f + ")", x.mended(sills, f), row[f]);
        }
    }

    private static void mendedByOneSill() {
        ThreeMasters low = shimmed(FOUR, -50, -50, -50, 7);
        mendedIs(low, 0, 0, 0, 0, 0, 0);
        mendedIs(low, 1, 100, 50, 0, 0, 0);
        mendedIs(low, 2, 200, 1, 99, 0, 0);
        mendedIs(low, 4, 300, 0, 51, 99, 0);
        mendedIs(low, 8, 286, 0, 0, 44, 99);
        ThreeMasters high = shimmed(FOUR, 50, 50, 50, 7);
        mendedIs(high, 1, 250, -50, 0, 0, 0);
        mendedIs(high, 2, 500, -99, -1, 0, 0);
        mendedIs(high, 8, 785, -99, -58, 0, 0);
        mendedIs(high, 8 + 1008, 785, -99, -58, 0, 0);
    }

    private static void mendedBySeveral() {
        ThreeMasters x = shimmed(FOUR, 10, -20, 5, 5);
        mendedIs(x, 15, 50 + 40 + 25 + 25, -10, 20, -5, -5);
        mendedIs(x, 9, 50 + 20, -10, 0, 0, 10);
        mendedIs(x, 10, 20 + 50, 0, 10, -10, 0);
        mendedIs(shimmed(FOUR, -1), 2, 2, 0, 1, 0, 0);
        mendedIs(shimmed(FOUR, 1), 2, 5, -1, 0, 0, 0);
        x.set(2, 9);
        x.set(3, 0);
        mendedIs(x, 15, 180, -10, 20, -5, -5);
        x.set(2, 0);
        x.set(3, 4);
        mendedIs(x, 15, 80, -10, 20, -5, -5);
        mendedIs(x, 8, 0, 0, 0, 0, 0);
    }

    private static void mendedForNothing() {
        ThreeMasters x = shimmed(FOUR, 10, -20, 5, 5);
        x.set(2, 0);
        x.set(3, 0);
        mendedIs(x, 8, 0, -99, -99, 99, 99);
        mendedIs(x, 4, 0, -99, 5, 99, 0);
        mendedIs(x, 9, 0, -10, -99, 10, 99);
        mendedIs(x, 1, 0, -10, 0, 0, 0);
        x.set(3, 1);
        mendedIs(x, 8, 0, 0, 0, 0, 0);
    }

    private static void mendedCannotBe() {
        ThreeMasters x = Due.plan("3e=0;8f=3;8f=3");
        x.measure(1, 0, 96);
        // MEANT 288, 96, 96 with 12 and 96: all come out, so shims alone make it off.
        x.shim(0, 99);
        mendedIs(x, 1, 495, -99, 0, 0);
        x.measure(0, 0, 100);
        // FLOOR 0: 288 down to 200; FLOORS 1, 2: 800 by 96 down to 768.
        Due.is("OFF 1", x.sill(1, 2), 11);
        x.shim(0, -12);
        Due.is("OFF 1, one too much", x.sill(1, 2), -100);
        mendedIs(x, 1, NONE, ANY_NOT, ANY_NOT, ANY_NOT);
        mendedIs(x, 3, NONE, ANY_NOT);
        mendedIs(x, 2, 2 * 132, 33, 99, 0);
        x.shim(0, -11);
        mendedIs(x, 1, 198, 99, 0, 0);
        mendedIs(x, 8, 0, 0, 0, 0);
        // FLOOR 1 comes out 101 below what was meant, and 1f=4 by ells of 112 is 100 over: too much for one FLOOR.
        x.shim(1, -69);
        mendedIs(x, 3, NONE, ANY_NOT, ANY_NOT, ANY_NOT);
        mendedIs(x, 5, 198 + 2 * 133, 99, 34, 99);
        ThreeMasters over = Due.plan("1f=4;1f=0");
        over.measure(1, 0, 112);
        mendedIs(over, 1, NONE, ANY_NOT);
        mendedIs(over, 2, 500, -99, -1);
        over.measure(1, 0, 111);
        mendedIs(over, 1, 495, -99, 0);
    }

    private static void mendedRefuses() {
        ThreeMasters x = shimmed(FOUR, 10);
        int[][] bad = {{-1, NONE}, {1024, NONE}, {1, 4}, {1, -2}, {1, 10}, {Integer.MIN_VALUE, 0},
            {1, Integer.MIN_VALUE}, {1, Integer.MAX_VALUE}};
        for (int[] b : bad) {
            Due.is("bad mended", x.mended(b[0], b[1]), ANY_BAD);
        }
        Due.is("mended() changes nothing", x.sill(1, 2), 10);
        mendedIs(new ThreeMasters(), 1023, 0);
        Due.is("mended(0, 0), no FLOORS", new ThreeMasters().mended(0, 0), ANY_BAD);
    }

    private static void next() {
        ThreeMasters x = new ThreeMasters();
        int[][] want = {{1, 0, 1}, {12, 0, 0}, {45, 3, 0}, {18, 6, 0}, {9999, 6, 0}, {8, 7, 1}, {40, 0, 4}};
        for (int[] w : want) {
            Due.is("next(" + w[0] + ", 0)", x.next(w[0], 0), w[1]);
            Due.is("next(" + w[0] + ", 1)", x.next(w[0], 1), w[2]);
        }
        Due.typed(x, "1f=0");
        x.shim(0, 9);
        // 9 over at the top: 100 by feet ends at 96, 4 below: 5 over; by ells at 90, 10 below: 1 below.
        Due.is("next(100, 0), 9 over", x.next(100, 0), 3);
        Due.is("next(100, 1), 9 over", x.next(100, 1), 1);
        x.shim(0, -9);
        // By feet cut up 108, 8 over: 1 below.
        Due.is("next(100, 0), 9 under", x.next(100, 0), 1);
        Due.is("next(100, 1), 9 under", x.next(100, 1), 1);
        int[][] bad = {{0, 0}, {10000, 0}, {1, -1}, {1, 2}, {Integer.MIN_VALUE, 0}};
        for (int[] b : bad) {
            Due.is("bad next", x.next(b[0], b[1]), BAD);
        }
    }
}
