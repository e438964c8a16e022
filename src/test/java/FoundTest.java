/** Promises 15 to 19: found, read, fits, worlds, odds. */
public final class FoundTest {
    private static final int NONE = ThreeMasters.NONE, BAD = ThreeMasters.BAD;
    /** MEANT 67, 93, 27. */
    private static final String THREE = "5f+7=5;2e+1=7;3s=2";

    public static void main(String[] args) {
        found();
        read();
        readAtTheEdges();
        fits();
        worlds();
        worldsOneByOne();
        odds();
        Due.end();
    }

    private static void found() {
        ThreeMasters x = new ThreeMasters();
        Due.is("found(0, 1)", x.found(0, 1), NONE);
        Due.is("found(0, 99999)", x.found(0, 99999), 1);
        Due.is("found(9, 5)", x.found(9, 5), NONE);
        Due.is("count(3)", x.count(3), 2);
        int[][] bad = {{-1, 1}, {10, 1}, {0, 0}, {0, -2}, {0, 100000}, {Integer.MIN_VALUE, 1}, {0, Integer.MAX_VALUE}};
        for (int[] b : bad) {
            Due.is("bad found", x.found(b[0], b[1]), -5);
        }
        Due.is("found(0, NONE)", x.found(0, NONE), 99999);
        Due.is("found(0, NONE) again", x.found(0, NONE), NONE);
        Due.is("count(3) less", x.count(3), 1);
    }

    private static void read() {
        ThreeMasters x = new ThreeMasters();
        Due.is("read(-1)", x.read(-1), BAD);
        Due.is("read(4)", x.read(4), BAD);
        Due.is("no FINDING by BAD", x.count(8), 0);
        Due.is("read(3), LOST", x.read(3), -11);
        Due.is("FINDING 1", x.count(8), 1);
        x.sheet(3, 2, 6);
        int[] items = {99999, -1, 1, 100000, 7, 8};
        for (int i = 0; i < items.length; i++) {
            x.put(3, 2, i, items[i]);
        }
        for (int f = 0; f < 5; f++) {
            x.found(f, 50 + f);
        }
        Due.is("read(3)", x.read(3), 3);
        int[] want = {99999, -1, 1, 53, 54, -1};
        for (int f = 0; f < want.length; f++) {
            Due.is("FOUND " + f + " behind read()", x.found(f, NONE), want[f]);
        }
    }

    private static void readAtTheEdges() {
        ThreeMasters x = new ThreeMasters();
        x.sheet(0, 2, 0);
        Due.is("read() of no items", x.read(0), 0);
        x.sheet(0, 0, 3);
        x.put(0, 0, 0, 127);
        x.put(0, 0, 1, 128);
        Due.is("read() of bytes: 127, -128", x.read(0), 1);
        x.sheet(0, 1, 48);
        for (int i = 0; i < 48; i++) {
            x.put(0, 1, i, i + 1);
        }
        Due.is("read() of ten at most", x.read(0), 10);
        Due.is("the tenth", x.found(9, NONE), 10);
        x.put(0, 1, 0, -2);
        Due.is("read(), the first may not be", x.read(0), 0);
        Due.is("FOUND 0 stays", x.found(0, NONE), 1);
    }

    private static void fits() {
        ThreeMasters x = Due.plan(THREE);
        Due.is("fits(0), not measured", x.fits(0), 511);
        x.found(0, 72);
        x.shim(0, 50);
        int[][] bySlack = {{0, 134}, {8, 134}, {9, 454}, {11, 454}, {12, 455}, {17, 455}, {18, 471}, {26, 471},
            {27, 511}, {99, 511}};
        for (int[] s : bySlack) {
            x.set(0, s[0]);
            Due.is("fits(0), SLACK " + s[0], x.fits(0), s[1]);
        }
        x.set(0, 0);
        x.found(1, 90);
        Due.is("fits(1)", x.fits(1), 360);
        x.found(2, 1);
        Due.is("fits(2)", x.fits(2), 0);
        x.found(3, 1);
        Due.is("fits(3), not there", x.fits(3), BAD);
        Due.is("fits(-1)", x.fits(-1), BAD);
        Due.is("fits(10)", x.fits(10), BAD);
        Due.is("fits(MIN)", x.fits(Integer.MIN_VALUE), BAD);
    }

    private static void worlds() {
        ThreeMasters x = new ThreeMasters();
        Due.is("worlds(), no FLOORS", x.worlds(), 1);
        x.found(0, 72);
        Due.is("worlds(), FOUND but not there", x.worlds(), 1);
        Due.typed(x, THREE);
        Due.is("worlds(), one FOUND", x.worlds(), 3 * 7 * 7);
        x.found(1, 90);
        Due.is("worlds(), two FOUND", x.worlds(), 10 * 7);
        x.found(2, 1);
        Due.is("worlds(), none", x.worlds(), 0);
        x.found(2, NONE);
        x.set(0, 99);
        Due.is("worlds(), all by SLACK", x.worlds(), 9 * 7 * 7);
        Due.is("worlds() of one", Due.plan("1f=0").worlds(), 9);
    }

    /** All ways of three floors, one by one, by what fits() says. */
    private static void worldsOneByOne() {
        for (int found = 20; found < 110; found += 3) {
            ThreeMasters x = Due.plan(THREE);
            x.found(0, found);
            x.found(1, 115 - found / 4);
            x.found(2, 15 + found / 5);
            x.set(0, found / 10);
            int[] fits = {x.fits(0), x.fits(1), x.fits(2)};
            long all = 0;
            long ells = 0;
            for (int w = 0; w < 729; w++) {
                int a = w / 81, b = w / 9 % 9, c = w % 9;
                boolean fit = (fits[0] >> a & fits[1] >> b & fits[2] >> c & 1) == 1;
                if (fit && (a / 3 != b / 3 || a == b) && (b / 3 != c / 3 || b == c)) {
                    all++;
                    ells += b / 3 == 1 ? 1 : 0;
                }
            }
            Due.is("worlds() one by one", x.worlds(), all);
            if (all > 0) {
                Due.is("odds() one by one", x.odds(1, 1, 0) * all, x.odds(1, 1, 1) * ells);
            }
        }
    }

    private static void odds() {
        ThreeMasters x = Due.plan(THREE);
        x.found(0, 72);
        long[] got = new long[6];
        for (int i = 0; i < 6; i++) {
            got[i] = x.odds(0, i / 2, i % 2);
        }
        Due.row("odds of FLOOR 0", got, 2, 3, 0, 1, 1, 3);
        x.found(1, 90);
        for (int i = 0; i < 6; i++) {
            got[i] = x.odds(1, i / 2, i % 2);
        }
        Due.row("odds of FLOOR 1", got, 0, 1, 3, 5, 2, 5);
        Due.is("odds(0, 0, 0)", x.odds(0, 0, 0), 4);
        Due.is("odds(0, 0, 1)", x.odds(0, 0, 1), 5);
        x.found(0, NONE);
        x.found(1, NONE);
        Due.is("odds(2, 1, 0), all alike", x.odds(2, 1, 0), 1);
        Due.is("odds(2, 1, 1), all alike", x.odds(2, 1, 1), 3);
        x.found(2, 1);
        Due.is("odds() of none", x.odds(0, 0, 0), Due.refusal(ThreeMasters.NOT));
        int[][] bad = {{-1, 0, 0}, {3, 0, 0}, {0, -1, 0}, {0, 3, 0}, {0, 0, -1}, {0, 0, 2}};
        for (int[] b : bad) {
            Due.is("bad odds", x.odds(b[0], b[1], b[2]), Due.refusal(BAD));
        }
        Due.is("odds(), no FLOORS", new ThreeMasters().odds(0, 0, 0), Due.refusal(BAD));
    }
}
