/** Promises 10 to 14: sill, worst, stairs, even, blame. */
public final class HowFarOffTest {
    private static final int BAD = ThreeMasters.BAD, ANY_BAD = -100002;
    /** MEANT 67, 93, 27; BUILT 45, 99, 24 by masters 1, 2, 0. */
    private static final String THREE = "5f+7=5;2e+1=7;3s=2";

    public static void main(String[] args) {
        sill();
        worst();
        stairs();
        even();
        evenAtTheEdges();
        blame();
        blameInLowestTerms();
        Due.end();
    }

    private static void sill() {
        ThreeMasters x = Due.plan(THREE);
        int[][] want = {{0, 0, 0}, {45, 67, -22}, {144, 160, -16}, {168, 187, -19}};
        for (int f = 0; f <= 3; f++) {
            for (int what = 0; what < 3; what++) {
                Due.is("sill(" + f + ", " + what + ")", x.sill(f, what), want[f][what]);
            }
        }
        x.shim(1, -50);
        Due.is("SILL above a SHIM", x.sill(2, 0), 94);
        Due.is("SHOULD above a SHIM", x.sill(2, 1), 160);
        Due.is("SILL below a SHIM", x.sill(1, 0), 45);
        int[][] bad = {{-1, 0}, {4, 0}, {11, 0}, {0, -1}, {0, 3}, {Integer.MAX_VALUE, 0}, {Integer.MIN_VALUE, 0}};
        for (int[] b : bad) {
            Due.is("bad sill", x.sill(b[0], b[1]), ANY_BAD);
        }
        Due.is("top of ten", Due.plan("1f=0;1f=0;1f=0;1f=0;1f=0;1f=0;1f=0;1f=0;1f=0;1f=0").sill(10, 0), 120);
    }

    private static void worst() {
        ThreeMasters x = Due.plan(THREE);
        Due.is("worst()", x.worst(), 1);
        x.shim(0, 22);
        Due.is("worst(), 0 0 6 3", x.worst(), 2);
        x.shim(0, 19);
        Due.is("worst(), 0 -3 3 0", x.worst(), 1);
        x.shim(2, -20);
        Due.is("worst() is the top", x.worst(), 3);
        Due.is("worst(), all like", Due.plan("1f=0;2f=0").worst(), 0);
        Due.is("worst(), no FLOORS", new ThreeMasters().worst(), 0);
    }

    private static void stairs() {
        ThreeMasters x = Due.plan(THREE);
        Due.is("stairs(1, 9, 11)", x.stairs(1, 9, 11), 0);
        Due.is("stairs(0, 40, 99)", x.stairs(0, 40, 99), 45 - 3960);
        Due.is("stairs(0, 1, 1)", x.stairs(0, 1, 1), 44);
        x.shim(0, -45);
        Due.is("stairs(0, 1, 1), SHIMMED", x.stairs(0, 1, 1), -1);
        int[][] bad = {{-1, 1, 1}, {3, 1, 1}, {0, 0, 1}, {0, 41, 1}, {0, 1, 0}, {0, 1, 100}, {0, -1, 1},
            {Integer.MIN_VALUE, 1, 1}};
        for (int[] b : bad) {
            Due.is("bad stairs", x.stairs(b[0], b[1], b[2]), ANY_BAD);
        }
    }

    private static void evenIs(ThreeMasters x, int floor, int from, int to, int... want) {
        for (int what = 0; what < 3; what++) {
            Due.is("even(" + floor + ", " + from + ", " + to + ", " + what + ")", x.even(floor, from, to, what), want[what]);
        }
    }

    private static void even() {
        ThreeMasters x = Due.plan(THREE);
        evenIs(x, 1, 1, 99, 99, 1, 0);
        evenIs(x, 1, 10, 20, 11, 9, 0);
        evenIs(x, 0, 10, 11, 11, 4, 1);
        evenIs(x, 0, 22, 23, 22, 2, 1);
        evenIs(x, 1, 19, 20, 20, 5, 1);
        evenIs(x, 2, 16, 16, 16, 1, 8);
        evenIs(x, 2, 7, 7, 7, 3, 3);
        evenIs(x, 2, 5, 7, 6, 4, 0);
        int[][] bad = {{-1, 1, 2, 0}, {3, 1, 2, 0}, {0, 0, 2, 0}, {0, 1, 100, 0}, {0, 3, 2, 0}, {0, 1, 2, -1},
            {0, 1, 2, 3}, {0, 100, 100, 0}, {0, Integer.MIN_VALUE, 2, 0}, {0, 1, Integer.MAX_VALUE, 0}};
        for (int[] b : bad) {
            Due.is("bad even", x.even(b[0], b[1], b[2], b[3]), BAD);
        }
    }

    private static void evenAtTheEdges() {
        ThreeMasters x = Due.plan("99e=3;1f=0");
        evenIs(x, 0, 1, 99, 99, 40, 4455 - 3960);
        evenIs(x, 0, 5, 7, 7, 40, 4455 - 280);
        x.shim(1, -87);
        evenIs(x, 1, 15, 20, 15, 1, 90);
        x.shim(1, -12);
        evenIs(x, 1, 1, 99, 1, 1, 1);
    }

    private static void blame() {
        ThreeMasters x = Due.plan(THREE);
        int[] own = {3, 22, 6};
        x.shim(0, 40);
        for (int k = 0; k < 3; k++) {
            Due.is("blame(" + k + ", 0, 0)", x.blame(k, 0, 0), own[k]);
            Due.is("blame(" + k + ", 0, 1)", x.blame(k, 0, 1), 1);
            Due.is("blame(" + k + ", 1, 0)", x.blame(k, 1, 0), own[k]);
            Due.is("blame(" + k + ", 1, 1)", x.blame(k, 1, 1), 31);
        }
        int[][] bad = {{-1, 0, 0}, {3, 0, 0}, {0, -1, 0}, {0, 2, 0}, {0, 0, -1}, {0, 0, 2}};
        for (int[] b : bad) {
            Due.is("bad blame", x.blame(b[0], b[1], b[2]), Due.refusal(BAD));
        }
    }

    private static void blameInLowestTerms() {
        ThreeMasters x = Due.plan("1f+6=0;1f+6=3;1f+6=6");
        long[] got = new long[6];
        for (int i = 0; i < 6; i++) {
            got[i] = x.blame(i / 2, 1, i % 2);
        }
        Due.row("shares", got, 1, 4, 3, 4, 0, 1);
        Due.typed(x, ";1f+6=1");
        Due.is("two FLOORS of one MASTER", x.blame(0, 0, 0), 12);
        ThreeMasters none = Due.plan("1f=0");
        none.shim(0, 9);
        Due.is("share of none", none.blame(0, 1, 0), Due.refusal(ThreeMasters.NOT));
        Due.is("share of none, below", none.blame(2, 1, 1), Due.refusal(ThreeMasters.NOT));
        Due.is("bad share of none", none.blame(3, 1, 1), Due.refusal(BAD));
        Due.is("blame of none", none.blame(0, 0, 0), 0);
        Due.is("blame of none, below", none.blame(0, 0, 1), 1);
    }
}
