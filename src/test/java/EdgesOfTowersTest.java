/** Terms, part 2: how far off, stairs and blame; promises 10 to 14 at their edges. */
public final class EdgesOfTowersTest {
    private static final int BAD = ThreeMasters.BAD, ANY_BAD = -100002;
    /** OFF 0 at all sills, so that shims alone make it. */
    private static final String FOUR = "9f=0;9f=0;9f=0;9f=0";
    private static final String TEN = FOUR + ";" + FOUR + ";9f=0;9f=0";

    public static void main(String[] args) {
        off();
        worst();
        worstOfLikeOnes();
        stairs();
        evenHeights();
        evenOfLikeOnes();
        evenAtTheMostSteps();
        evenOfNoHeight();
        evenRefuses();
        masters();
        blame();
        share();
        shareOfNone();
        floorsNoLongerThere();
        Due.end();
    }

    private static void off() {
        Due.says("OFF of a FLOOR (0 to as many as there are: the top): SILL less SHOULD there.");
        ThreeMasters x = Due.plan("9f+5=0;9f+5=1");
        int[] want = {ANY_BAD, 0, -5, 2, ANY_BAD};
        for (int f = -1; f <= 3; f++) {
            Due.is("OFF of " + f, x.sill(f, 2), want[f + 1]);
        }
        ThreeMasters none = new ThreeMasters();
        none.shim(0, 9);
        Due.is("OFF of the top of none", none.sill(0, 2), 0);
        Due.is("OFF above the top of none", none.sill(1, 2), ANY_BAD);
        ThreeMasters ten = Due.plan(TEN);
        ten.shim(9, -7);
        Due.is("OFF of 9 of ten", ten.sill(9, 2), 0);
        Due.is("OFF of the top of ten", ten.sill(10, 2), -7);
        Due.is("OFF above the top of ten", ten.sill(11, 2), ANY_BAD);
    }

    /** A tower with OFF as told at SILLS 1 on. */
    private static ThreeMasters offBy(int... off) {
        ThreeMasters x = Due.plan(FOUR);
        for (int f = 0; f < off.length; f++) {
            x.shim(f, off[f] - (f == 0 ? 0 : off[f - 1]));
        }
        return x;
    }

    private static void worst() {
        Due.says("WORST: the FLOOR with the greatest amount of OFF (of 0 to the top; of like ones the least).");
        Due.says("`int worst()`: WORST.");
        Due.is("all 0", offBy(0, 0, 0, 0).worst(), 0);
        Due.is("1 at the top", offBy(0, 0, 0, 1).worst(), 4);
        Due.is("-1 at the top", offBy(0, 0, 0, -1).worst(), 4);
        Due.is("1 at the first", offBy(1, 0, 0, 0).worst(), 1);
        Due.is("greater below 0", offBy(5, -6, 0, 0).worst(), 2);
        Due.is("greater above 0", offBy(-5, 6, 0, 0).worst(), 2);
        Due.is("no FLOORS", new ThreeMasters().worst(), 0);
        ThreeMasters beyond = offBy(0, 3, 0, 0);
        beyond.shim(4, 50);
        Due.is("SHIMS beyond the top aside", beyond.worst(), 2);
    }

    private static void worstOfLikeOnes() {
        Due.is("5 5 5 5", offBy(5, 5, 5, 5).worst(), 1);
        Due.is("-5 5 -5 5", offBy(-5, 5, -5, 5).worst(), 1);
        Due.is("5 -5 5 -5", offBy(5, -5, 5, -5).worst(), 1);
        Due.is("4 6 -6 6", offBy(4, 6, -6, 6).worst(), 2);
        Due.is("4 -6 6 5", offBy(4, -6, 6, 5).worst(), 2);
        Due.is("6 -6 6 -7", offBy(6, -6, 6, -7).worst(), 4);
    }

    private static void stairs() {
        Due.says("STAIRS of a FLOOR go by n STEPS (1 to 40) of one HEIGHT (1 to 99): they MISS by BUILT less n times HEIGHT.");
        Due.says("By how much STAIRS MISS, as any number. BAD: -100002.");
        ThreeMasters x = Due.plan("9f+5=0");
        x.shim(0, 1);
        // BUILT 109 with the SHIM.
        int[] steps = {-1, 0, 1, 2, 39, 40, 41};
        int[] heights = {-1, 0, 1, 2, 98, 99, 100};
        for (int n : steps) {
            for (int height : heights) {
                boolean may = n >= 1 && n <= 40 && height >= 1 && height <= 99;
                Due.is("stairs(0, " + n + ", " + height + ")", x.stairs(0, n, height), may ? 109 - n * height : ANY_BAD);
            }
        }
        Due.is("stairs(0, 10, 11), one too high", x.stairs(0, 10, 11), -1);
        Due.is("stairs(-1, 1, 1)", x.stairs(-1, 1, 1), ANY_BAD);
        Due.is("stairs(1, 1, 1)", x.stairs(1, 1, 1), ANY_BAD);
        x.shim(0, -8);
        Due.is("stairs(0, 10, 10)", x.stairs(0, 10, 10), 0);
    }

    /** One FLOOR that is BUILT so high, up to 99, or less by a SHIM. */
    private static ThreeMasters high(int built) {
        int told = Math.max(1, Math.min(99, built));
        ThreeMasters x = Due.plan(told + "f=0");
        x.measure(0, 0, 1);
        x.shim(0, built - told);
        return x;
    }

    private static void evenIs(int built, int from, int to, int height, int steps, int miss) {
        ThreeMasters x = high(built);
        String call = "BUILT " + built + ": even(0, " + from + ", " + to + ", ";
        Due.is(call + "0)", x.even(0, from, to, 0), height);
        Due.is(call + "1)", x.even(0, from, to, 1), steps);
        Due.is(call + "2)", x.even(0, from, to, 2), miss);
    }

    private static void evenHeights() {
        Due.says("EVEN: the HEIGHT, from one to another (1 to 99), and n by which the amount of MISS is least,");
        evenIs(12, 1, 99, 12, 1, 0);
        evenIs(12, 1, 12, 12, 1, 0);
        evenIs(12, 1, 11, 6, 2, 0);
        evenIs(12, 1, 5, 4, 3, 0);
        evenIs(12, 1, 3, 3, 4, 0);
        evenIs(12, 1, 1, 1, 12, 0);
        evenIs(12, 12, 12, 12, 1, 0);
        evenIs(12, 12, 99, 12, 1, 0);
        evenIs(12, 13, 99, 13, 1, 1);
        evenIs(12, 7, 11, 11, 1, 1);
        evenIs(12, 99, 99, 99, 1, 87);
        evenIs(99, 99, 99, 99, 1, 0);
        evenIs(98, 99, 99, 99, 1, 1);
        evenIs(100, 99, 99, 99, 1, 1);
        evenIs(1, 1, 99, 1, 1, 0);
        // 44 by 5: 40 or 45, of heights with others above them.
        evenIs(44, 8, 10, 9, 5, 1);
        evenIs(46, 7, 13, 9, 5, 1);
        evenIs(59, 8, 8, 8, 7, 3);
    }

    private static void evenOfLikeOnes() {
        Due.says("of like ones the fewest STEPS, then the least HEIGHT.");
        evenIs(12, 8, 8, 8, 1, 4);
        evenIs(12, 7, 7, 7, 2, 2);
        evenIs(12, 9, 9, 9, 1, 3);
        evenIs(24, 16, 16, 16, 1, 8);
        evenIs(60, 10, 30, 30, 2, 0);
        evenIs(60, 10, 29, 20, 3, 0);
        // 2 by 7 and 2 by 8 are both 1 off.
        evenIs(15, 7, 8, 7, 2, 1);
        // 2 by 11 is 1 off, as are 3 by 8 and 2 by 12.
        evenIs(23, 8, 12, 11, 2, 1);
        // 1 by 22 and 1 by 24 are 1 off.
        evenIs(23, 24, 24, 24, 1, 1);
        evenIs(23, 22, 22, 22, 1, 1);
        // 7 by 8 and 8 by 7 are both 3 off.
        evenIs(59, 7, 8, 8, 7, 3);
        evenIs(47, 15, 16, 16, 3, 1);
        evenIs(45, 30, 30, 30, 1, 15);
    }

    private static void evenAtTheMostSteps() {
        evenIs(39, 1, 1, 1, 39, 0);
        evenIs(40, 1, 1, 1, 40, 0);
        evenIs(41, 1, 1, 1, 40, 1);
        evenIs(80, 2, 2, 2, 40, 0);
        evenIs(81, 2, 2, 2, 40, 1);
        evenIs(82, 2, 2, 2, 40, 2);
        evenIs(78, 2, 2, 2, 39, 0);
        ThreeMasters x = Due.plan("88e=3");
        // 3960 is 40 by 99 and no less.
        int[] want = {99, 40, 0};
        for (int what = 0; what < 3; what++) {
            Due.is("even() of 3960", x.even(0, 1, 99, what), want[what]);
        }
        x.shim(0, 1);
        Due.is("even() of 3961", x.even(0, 1, 99, 2), 1);
        x.shim(0, -1);
        Due.is("even() of 3959, HEIGHT", x.even(0, 1, 99, 0), 99);
        Due.is("even() of 3959, STEPS", x.even(0, 1, 99, 1), 40);
        Due.is("even() of 3959, MISS", x.even(0, 1, 99, 2), 1);
    }

    private static void evenOfNoHeight() {
        evenIs(0, 1, 99, 1, 1, 1);
        evenIs(0, 15, 20, 15, 1, 15);
        evenIs(-1, 1, 99, 1, 1, 2);
        evenIs(-98, 15, 20, 15, 1, 113);
        evenIs(-98, 99, 99, 99, 1, 197);
    }

    private static void evenRefuses() {
        Due.says("EVEN: HEIGHT (what = 0), STEPS (1), the amount of MISS (2). BAD.");
        ThreeMasters x = high(12);
        int[][] bad = {{0, 0, 5, 0}, {0, 1, 100, 0}, {0, 5, 4, 0}, {0, 99, 98, 0}, {0, 1, 0, 0}, {0, 100, 100, 0}, {0, 0, 0, 0},
            {-1, 1, 5, 0}, {1, 1, 5, 0}, {0, 1, 5, -1}, {0, 1, 5, 3}};
        for (int[] b : bad) {
            Due.is("even(" + b[0] + ", " + b[1] + ", " + b[2] + ", " + b[3] + ")", x.even(b[0], b[1], b[2], b[3]), BAD);
        }
        Due.is("even(0, 5, 5, 1)", x.even(0, 5, 5, 1), 2);
    }

    private static void masters() {
        Due.says("MASTERS are 0 to 2: of a FLOOR the one by whose MEASURE it is built.");
        // All FLOORS are MEANT in feet, 113; off by 5 down and 7 up in feet, 23 and 22 in ells, 5 and 4 in spans.
        int[] off = {5, 7, 5, 23, 22, 22, 5, 4, 4};
        for (int way = 0; way < 9; way++) {
            ThreeMasters x = Due.plan("9f+5=" + way);
            for (int k = 0; k < 3; k++) {
                Due.is("BLAME of " + k + " for " + way, x.blame(k, 0, 0), k == way / 3 ? off[way] : 0);
                Due.is("its share", x.blame(k, 1, 0), k == way / 3 ? 1 : 0);
                Due.is("its share, below", x.blame(k, 1, 1), 1);
            }
        }
    }

    private static void blame() {
        Due.says("BLAME of a MASTER: over the FLOORS that are that one's the amounts by which BUILT (not SHIMMED) is off MEANT, "
            + "together;");
        ThreeMasters x = Due.plan("9f+5=0;9f+5=1;9f+5=3;9f+5=8;9f=0");
        for (int f = 0; f < 10; f++) {
            x.shim(f, 90 - f);
        }
        long[] want = {12, 23, 4};
        for (int k = 0; k < 3; k++) {
            Due.is("BLAME of " + k, x.blame(k, 0, 0), want[k]);
            Due.is("BLAME of " + k + ", below", x.blame(k, 0, 1), 1);
        }
        Due.is("blame(-1, 0, 0)", x.blame(-1, 0, 0), Due.refusal(BAD));
        Due.is("blame(3, 0, 0)", x.blame(3, 0, 0), Due.refusal(BAD));
    }

    private static void shares(String text, long... want) {
        ThreeMasters x = Due.plan(text);
        for (int i = 0; i < 6; i++) {
            Due.is("'" + text + "': blame(" + i / 2 + ", 1, " + i % 2 + ")", x.blame(i / 2, 1, i % 2), want[i]);
        }
    }

    private static void share() {
        Due.says("its share of all; a FRACTION; NOT, if all are 0.");
        Due.says("FRACTIONS are told in lowest terms, above and below (0 by 1).");
        Due.says("BLAME (which = 0; above, by 1), its share (1): above, below. BAD; NOT (1). "
            + "(A refusal -x is the least long and x more.)");
        shares("9f+5=0", 1, 1, 0, 1, 0, 1);
        shares("9f+5=0;9f+5=6", 1, 2, 0, 1, 1, 2);
        shares("9f+5=0;9f+5=3", 5, 28, 23, 28, 0, 1);
        shares("9f+5=1;9f+5=0;9f+5=8", 3, 4, 0, 1, 1, 4);
        shares("9f+1=0;9f=3;9f=0", 1, 19, 18, 19, 0, 1);
        shares("9f+1=0;9f=0", 1, 1, 0, 1, 0, 1);
    }

    private static void shareOfNone() {
        long not = Due.refusal(ThreeMasters.NOT);
        shares("", not, not, not, not, not, not);
        shares("9f=0", not, not, not, not, not, not);
        shares("9f=0;1e=3;1s=6", not, not, not, not, not, not);
        shares("9f+1=0;x", not, not, not, not, not, not);
        ThreeMasters x = Due.plan("9f=0");
        x.shim(0, 5);
        Due.is("a SHIM is no BLAME", x.blame(0, 1, 0), not);
        Due.is("BLAME of none", x.blame(0, 0, 0), 0);
        Due.is("BLAME of none, below", x.blame(0, 0, 1), 1);
        Due.is("BAD ahead of NOT", x.blame(0, 1, 2), Due.refusal(BAD));
        x.measure(0, 0, 11);
        Due.is("none by another SIZE", x.blame(0, 1, 0), not);
        x.measure(0, 1, 2);
        Due.is("none by another GRID", x.blame(0, 1, 0), not);
        Due.typed(x, ";1s=0");
        Due.is("some by another FLOOR", x.blame(0, 1, 0), 1);
    }

    /** What a longer plan left behind must not be counted. */
    private static void floorsNoLongerThere() {
        ThreeMasters x = Due.plan("9f+5=0;9f+5=1;9f+5=4");
        x.wipe();
        Due.typed(x, "9f+5=0");
        Due.is("worst()", x.worst(), 1);
        Due.is("blame(0, 0, 0)", x.blame(0, 0, 0), 5);
        Due.is("blame(1, 0, 0)", x.blame(1, 0, 0), 0);
        Due.is("sill(2, 0)", x.sill(2, 0), ANY_BAD);
        Due.is("stones(0)", x.stones(0), 1);
        Due.is("count(2)", x.count(2), 113);
    }
}
