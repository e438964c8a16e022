/** Promises 26 to 30: weigh, bears, safe, more, stones. */
public final class LoadsStonesTest {
    private static final int NONE = ThreeMasters.NONE, BAD = ThreeMasters.BAD;
    /** MEANT 67, 93, 27; BUILT 45, 99, 24. */
    private static final String THREE = "5f+7=5;2e+1=7;3s=2";

    public static void main(String[] args) {
        weigh();
        bears();
        safe();
        safeBelowNothing();
        more();
        stones();
        Due.end();
    }

    private static void weigh() {
        ThreeMasters x = new ThreeMasters();
        Due.is("weigh(0, 99)", x.weigh(0, 99), 0);
        Due.is("weigh(0, 0)", x.weigh(0, 0), 99);
        Due.is("weigh(9, 1), not there", x.weigh(9, 1), 0);
        Due.is("weigh(9, 2)", x.weigh(9, 2), 1);
        int[][] bad = {{-1, 0}, {10, 0}, {0, -1}, {0, 100}, {Integer.MIN_VALUE, 0}, {0, Integer.MAX_VALUE}};
        for (int[] b : bad) {
            Due.is("bad weigh", x.weigh(b[0], b[1]), BAD);
        }
        Due.is("weight behind bad ones", x.weigh(0, 5), 0);
    }

    private static void bears() {
        ThreeMasters x = Due.plan(THREE);
        int[][] want = {{9, 13, 18}, {19, 29, 39}, {4, 7, 9}};
        for (int f = 0; f < 3; f++) {
            for (int k = 0; k < 3; k++) {
                Due.is("bears(" + f + ", " + k + ")", x.bears(f, k), want[f][k]);
            }
        }
        x.shim(2, -28);
        Due.is("bears() of -4, by 2", x.bears(2, 0), 0);
        Due.is("bears() of -4, by 4", x.bears(2, 2), -1);
        int[][] bad = {{-1, 0}, {3, 0}, {0, -1}, {0, 3}, {Integer.MAX_VALUE, 0}};
        for (int[] b : bad) {
            Due.is("bad bears", x.bears(b[0], b[1]), BAD);
        }
        Due.is("bears() of much", Due.plan("99e=3").bears(0, 2), 4455 * 4 / 10);
    }

    private static ThreeMasters weighing(int... weights) {
        ThreeMasters x = Due.plan(THREE);
        for (int f = 0; f < weights.length; f++) {
            x.weigh(f, weights[f]);
        }
        return x;
    }

    private static void safeIs(ThreeMasters x, int... want) {
        for (int k = 0; k < 3; k++) {
            Due.is("safe(" + k + ")", x.safe(k), want[k]);
        }
    }

    private static void safe() {
        safeIs(new ThreeMasters(), NONE, NONE, NONE);
        safeIs(weighing(99, 5, 4, 99), NONE, NONE, NONE);
        safeIs(weighing(99, 6, 4), 0, NONE, NONE);
        safeIs(weighing(99, 9, 5), 0, 0, NONE);
        safeIs(weighing(99, 14, 5), 0, 0, 0);
        ThreeMasters x = weighing(0, 0, 20);
        x.shim(0, 99);
        safeIs(x, 1, NONE, NONE);
        Due.is("safe(-1)", x.safe(-1), BAD);
        Due.is("safe(3)", x.safe(3), BAD);
    }

    private static void safeBelowNothing() {
        ThreeMasters x = weighing(0, 0, 0);
        // BUILT -3: -6, -9 and -12 by 10, cut towards 0.
        x.shim(2, -27);
        safeIs(x, NONE, NONE, 2);
        Due.is("more(), not SAFE in one", x.more(), NONE);
        x.shim(2, -26);
        safeIs(x, NONE, NONE, NONE);
        Due.is("more(), SAFE in all", x.more(), 9);
    }

    private static void more() {
        Due.is("more(), no FLOORS", new ThreeMasters().more(), NONE);
        Due.is("more(), one FLOOR", Due.plan("1f=0").more(), 99);
        Due.is("more(), nothing", weighing(99, 5, 4).more(), 0);
        Due.is("more(), 3", weighing(99, 5, 1).more(), 3);
        Due.is("more(), not as it is", weighing(99, 6, 4).more(), NONE);
        ThreeMasters x = weighing(0, 0, 6);
        x.shim(0, 99);
        Due.is("more(), by FLOOR 1", x.more(), 13);
        ThreeMasters strong = Due.plan("99e=3;1f=0");
        strong.weigh(1, 99);
        Due.is("more(), 99 at most", strong.more(), 99);
    }

    private static void stones() {
        ThreeMasters x = Due.plan(THREE);
        stonesAre(x, 2, 0);
        x.shim(2, 7);
        stonesAre(x, 2, 1);
        x.shim(1, 1);
        stonesAre(x, 2, 1);
        x.shim(1, 2);
        stonesAre(x, 2, 2);
        x.shim(2, -24);
        stonesAre(x, 5, 1);
        x.shim(2, -33);
        stonesAre(x, 5, 1);
        x.shim(2, -34);
        stonesAre(x, 6, 1);
        Due.is("stones(-1)", x.stones(-1), BAD);
        Due.is("stones(2)", x.stones(2), BAD);
        stonesAre(new ThreeMasters(), 0, 0);
    }

    private static void stonesAre(ThreeMasters x, int tooMany, int tooFew) {
        Due.is("stones(0)", x.stones(0), tooMany);
        Due.is("stones(1)", x.stones(1), tooFew);
    }
}
