/** Terms, part 5: loads and stones; promises 26 to 30 at their edges. */
public final class EdgesOfLoadsTest {
    private static final int NONE = ThreeMasters.NONE, BAD = ThreeMasters.BAD;

    public static void main(String[] args) {
        weigh();
        bears();
        bearsTowardsNothing();
        safe();
        safeAbove();
        firstThatHas();
        more();
        moreOfOne();
        moreNone();
        stonesAsItIs();
        twice();
        Due.end();
    }

    private static void weigh() {
        Due.says("LOADS: each FLOOR weighs 0 to 99 (0 at first);");
        Due.says("What a FLOOR (0 to 9, whether it is there or not) weighs: what it was. BAD.");
        ThreeMasters x = Due.plan("9f=0");
        for (int f = -1; f <= 10; f++) {
            int was = 0;
            for (int v : new int[] {-1, 0, 1, 98, 99, 100, 7, 0}) {
                boolean may = f >= 0 && f <= 9 && v >= 0 && v <= 99;
                Due.is("weigh(" + f + ", " + v + ")", x.weigh(f, v), may ? was : BAD);
                was = may ? v : was;
            }
        }
    }

    /** FLOORS that are BUILT so high, 1 to 99 but for SHIMS. */
    private static ThreeMasters high(int... built) {
        ThreeMasters x = new ThreeMasters();
        x.measure(0, 0, 1);
        for (int f = 0; f < built.length; f++) {
            int told = Math.max(1, Math.min(99, built[f]));
            Due.typed(x, (f == 0 ? "" : ";") + told + "f=0");
            x.shim(f, built[f] - told);
        }
        return x;
    }

    private static ThreeMasters weighing(ThreeMasters x, int... weights) {
        for (int f = 0; f < weights.length; f++) {
            x.weigh(f, weights[f]);
        }
        return x;
    }

    private static void bearsAre(int built, int... want) {
        ThreeMasters x = high(built);
        for (int k = 0; k < 3; k++) {
            Due.is("BUILT " + built + ": bears(0, " + k + ")", x.bears(0, k), want[k]);
        }
    }

    private static void bears() {
        Due.says("a FLOOR BEARS in three reckonings: of MASTER k (k and 2) times its BUILT by 10 (cut towards 0).");
        Due.says("What a FLOOR BEARS in a reckoning. BAD.");
        bearsAre(2, 0, 0, 0);
        bearsAre(3, 0, 0, 1);
        bearsAre(4, 0, 1, 1);
        bearsAre(5, 1, 1, 2);
        bearsAre(9, 1, 2, 3);
        bearsAre(10, 2, 3, 4);
        bearsAre(99, 19, 29, 39);
        ThreeMasters x = high(10, 20);
        for (int f = -1; f <= 2; f++) {
            for (int k = -1; k <= 3; k++) {
                boolean may = f >= 0 && f <= 1 && k >= 0 && k <= 2;
                Due.is("bears(" + f + ", " + k + ")", x.bears(f, k), may ? (k + 2) * (f + 1) : BAD);
            }
        }
        ThreeMasters most = Due.plan("99f+11=1");
        most.measure(0, 0, 999);
        most.shim(0, 99);
        // 99816 cut up to whole feet is 99900.
        Due.is("bears() at most", most.bears(0, 2), 99999 * 4 / 10);
    }

    private static void bearsTowardsNothing() {
        bearsAre(0, 0, 0, 0);
        bearsAre(1, 0, 0, 0);
        bearsAre(-1, 0, 0, 0);
        bearsAre(-2, 0, 0, 0);
        bearsAre(-3, 0, 0, -1);
        bearsAre(-4, 0, -1, -1);
        bearsAre(-5, -1, -1, -2);
        bearsAre(-6, -1, -1, -2);
        bearsAre(-98, -19, -29, -39);
    }

    private static void safeIs(ThreeMasters x, int... want) {
        for (int k = 0; k < 3; k++) {
            Due.is("safe(" + k + ")", x.safe(k), want[k]);
        }
    }

    private static void safe() {
        Due.says("SAFE in a reckoning: whether no FLOOR has more above it (FLOORS above, together) than it BEARS;");
        // FLOOR 0 BEARS 10, 15, 20.
        safeIs(weighing(high(50, 50), 99, 9), NONE, NONE, NONE);
        safeIs(weighing(high(50, 50), 99, 10), NONE, NONE, NONE);
        safeIs(weighing(high(50, 50), 99, 11), 0, NONE, NONE);
        safeIs(weighing(high(50, 50), 99, 15), 0, NONE, NONE);
        safeIs(weighing(high(50, 50), 99, 16), 0, 0, NONE);
        safeIs(weighing(high(50, 50), 99, 20), 0, 0, NONE);
        safeIs(weighing(high(50, 50), 99, 21), 0, 0, 0);
        // The top has nothing above it, and BEARS less than that only below 0.
        safeIs(weighing(high(50, -2), 99, 0), NONE, NONE, NONE);
        safeIs(weighing(high(50, -3), 99, 0), NONE, NONE, 1);
        safeIs(weighing(high(50, -4), 99, 0), NONE, 1, 1);
        safeIs(weighing(high(50, -5), 99, 0), 1, 1, 1);
    }

    private static void safeAbove() {
        // Its own weight is not above a FLOOR, and those beyond the top are not there.
        safeIs(weighing(high(1), 99, 99, 99), NONE, NONE, NONE);
        safeIs(weighing(high(50, 50), 0, 10, 99), NONE, NONE, NONE);
        safeIs(weighing(high(50, 50, 50), 0, 6, 4), NONE, NONE, NONE);
        safeIs(weighing(high(50, 50, 50), 0, 6, 5), 0, NONE, NONE);
        safeIs(weighing(high(50, 50, 50), 0, 7, 4), 0, NONE, NONE);
        safeIs(weighing(high(50, 50, 50), 0, 99, 0), 0, 0, 0);
        safeIs(weighing(new ThreeMasters(), 99, 99), NONE, NONE, NONE);
        ThreeMasters ten = weighing(high(99, 99, 99, 99, 99, 99, 99, 99, 99, 99), 99, 2, 2, 2, 2, 2, 2, 2, 2, 3);
        safeIs(ten, NONE, NONE, NONE);
        ten.weigh(9, 4);
        safeIs(ten, 0, NONE, NONE);
    }

    private static void firstThatHas() {
        Due.says("the first that has; NONE.");
        Due.says("SAFE: the first that has more; NONE. BAD.");
        safeIs(weighing(high(99, 50, 50), 0, 0, 11), 1, NONE, NONE);
        safeIs(weighing(high(99, 50, 50), 0, 9, 11), 0, NONE, NONE);
        safeIs(weighing(high(99, 50, 50), 0, 8, 11), 1, NONE, NONE);
        safeIs(weighing(high(50, 50, 50), 0, 0, 11), 0, NONE, NONE);
        safeIs(weighing(high(50, 50, -5), 0, 0, 0), 2, 2, 2);
        safeIs(weighing(high(-5, 50, -5), 0, 0, 0), 0, 0, 0);
        ThreeMasters x = high(50);
        int[] want = {BAD, NONE, NONE, NONE, BAD};
        for (int k = -1; k <= 3; k++) {
            Due.is("safe(" + k + ")", x.safe(k), want[k + 1]);
        }
    }

    private static void more() {
        Due.says("How much more than it does the top FLOOR may weigh (0 to 99 more), so that it is SAFE in all three;");
        Due.says("How much more the top FLOOR may weigh; NONE.");
        Due.is("all of 10", weighing(high(50, 50), 99, 0).more(), 10);
        Due.is("9 left", weighing(high(50, 50), 99, 1).more(), 9);
        Due.is("1 left", weighing(high(50, 50), 99, 9).more(), 1);
        Due.is("0 left", weighing(high(50, 50), 99, 10).more(), 0);
        Due.is("less than none", weighing(high(50, 50), 99, 11).more(), NONE);
        Due.is("the least of all FLOORS", weighing(high(50, 40, 50), 0, 0, 1).more(), 7);
        Due.is("the least with what is between", weighing(high(50, 40, 50), 0, 3, 1).more(), 6);
        // BUILT 495 BEARS 99, less by one 98.
        ThreeMasters x = Due.plan("11e=3;9f=0");
        Due.is("99 at most, just so", x.more(), 99);
        x.shim(0, -1);
        Due.is("one less", x.more(), 98);
        x.shim(0, 5);
        Due.is("no more than 99", x.more(), 99);
        x.weigh(1, 99);
        Due.is("beyond 99 in all", x.more(), 1);
    }

    private static void moreOfOne() {
        Due.is("one FLOOR", high(1).more(), 99);
        Due.is("one that weighs 99", weighing(high(1), 99).more(), 99);
        Due.is("one of no height", high(0).more(), 99);
        Due.is("one that BEARS -0.8", high(-2).more(), 99);
        Due.is("one that BEARS -1.2", high(-3).more(), NONE);
    }

    private static void moreNone() {
        Due.says("NONE: it is not as it is, or there is no FLOOR.");
        Due.is("no FLOOR", new ThreeMasters().more(), NONE);
        Due.is("no FLOOR by a FAULT", Due.plan("9f=0;").more(), NONE);
        Due.is("not SAFE by one of three", weighing(high(50, 50), 0, 11).more(), NONE);
        Due.is("not SAFE by the top", high(50, -3).more(), NONE);
        Due.is("SAFE by the top", high(50, -2).more(), 10);
    }

    private static void stonesAre(ThreeMasters x, int tooMany, int tooFew) {
        Due.is("stones(0)", x.stones(0), tooMany);
        Due.is("stones(1)", x.stones(1), tooFew);
    }

    /** One FLOOR, MEANT to be so high and SHIMMED. */
    private static ThreeMasters bought(int meant, int shim) {
        ThreeMasters x = high(meant);
        x.shim(0, shim);
        return x;
    }

    private static void stonesAsItIs() {
        Due.says("STONE: a FLOOR takes BUILT by 10 (cut up) stones as it is, MEANT by 10 (cut up) as it was bought.");
        stonesAre(bought(20, 0), 0, 0);
        stonesAre(bought(20, 1), 0, 1);
        stonesAre(bought(20, 10), 0, 1);
        stonesAre(bought(20, 11), 0, 2);
        stonesAre(bought(20, -9), 0, 0);
        stonesAre(bought(20, -10), 1, 0);
        stonesAre(bought(20, -19), 1, 0);
        stonesAre(bought(20, -20), 2, 0);
        // Below 0 cut up is towards 0.
        stonesAre(bought(20, -21), 2, 0);
        stonesAre(bought(20, -29), 2, 0);
        stonesAre(bought(20, -30), 3, 0);
        stonesAre(bought(21, 0), 0, 0);
        stonesAre(bought(21, -1), 1, 0);
        stonesAre(bought(21, 9), 0, 0);
        stonesAre(bought(21, 10), 0, 1);
        stonesAre(bought(1, 99), 0, 9);
        stonesAre(bought(1, -99), 10, 0);
        stonesAre(bought(1, -1), 1, 0);
        stonesAre(bought(99, 1), 0, 0);
    }

    private static void twice() {
        Due.says("TWICE: by how many all were bought too many, FLOOR by FLOOR (none where it was too few); too few likewise.");
        Due.says("STONES bought too many (what = 0), too few (1). BAD.");
        ThreeMasters x = high(20, 20, 20);
        stonesAre(x, 0, 0);
        x.shim(0, 15);
        x.shim(1, -15);
        stonesAre(x, 1, 2);
        x.shim(2, -10);
        stonesAre(x, 2, 2);
        x.shim(2, 10);
        stonesAre(x, 1, 3);
        x.shim(3, 99);
        stonesAre(x, 1, 3);
        stonesAre(new ThreeMasters(), 0, 0);
        ThreeMasters none = new ThreeMasters();
        none.shim(0, 50);
        stonesAre(none, 0, 0);
        Due.is("stones(-1)", x.stones(-1), BAD);
        Due.is("stones(2)", x.stones(2), BAD);
    }
}
