/** Terms, part 3: what was found, what fits, worlds and odds; promises 15 to 19 at their edges. */
public final class EdgesOfFindsTest {
    private static final int NONE = ThreeMasters.NONE, BAD = ThreeMasters.BAD, BAD_FIND = -5;
    /** MEANT 108: by feet and spans 108 in every habit, by ells 90, 135, 90. */
    private static final String ONE = "9f=0";
    private static final int FEET_AND_SPANS = 7 + 448, ELLS_DOWN = 8 + 32, ELLS_UP = 16;

    public static void main(String[] args) {
        found();
        read();
        readUpTo();
        readTenAtMost();
        fits();
        fitsWithinSlack();
        fitsByNumbers();
        fitsNotMeasured();
        worlds();
        worldsNextToOneAnother();
        odds();
        oddsOfNone();
        Due.end();
    }

    private static void found() {
        Due.says("FOUND: of FLOORS 0 to 9, whether they are there or not, how high each was measured (1 to 99999; NONE: not, "
            + "at first).");
        Due.says("A FLOOR (0 to 9) is FOUND so high (NONE: not): what it was. BAD: -5.");
        ThreeMasters x = Due.plan(ONE);
        for (int f = -1; f <= 10; f++) {
            int was = NONE;
            for (int v : new int[] {-2, 0, 1, 2, 99998, 99999, 100000, NONE, NONE, 5}) {
                boolean may = f >= 0 && f <= 9 && (v == NONE || v >= 1 && v <= 99999);
                Due.is("found(" + f + ", " + v + ")", x.found(f, v), may ? was : BAD_FIND);
                was = may ? v : was;
            }
        }
        Due.is("all are FOUND", x.count(3), 10);
        Due.is("FOUND of the one that is there", x.floor(0, 4), 5);
    }

    private static ThreeMasters sheet(int... items) {
        ThreeMasters x = new ThreeMasters();
        for (int f = 0; f < 10; f++) {
            x.found(f, 700 + f);
        }
        x.sheet(1, 2, items.length);
        for (int i = 0; i < items.length; i++) {
            x.put(1, 2, i, items[i]);
        }
        return x;
    }

    private static void readIs(int many, int... items) {
        ThreeMasters x = sheet(items);
        Due.is("read(1)", x.read(1), many);
        for (int f = 0; f < 10; f++) {
            Due.is("FOUND of " + f, x.found(f, NONE), f < many ? items[f] : 700 + f);
        }
    }

    private static void read() {
        Due.says("FOUND of FLOORS 0 on by a SHEET, item by item, up to the first that may not be (NONE, 1 to 99999), ten at most: "
            + "how many. BAD (the SHEET); NULL.");
        ThreeMasters x = new ThreeMasters();
        int[] due = {BAD, -11, -11, -11, -11, BAD};
        for (int s = -1; s <= 4; s++) {
            Due.is("read(" + s + ")", x.read(s), due[s + 1]);
        }
        readIs(0);
        readIs(1, 7);
        readIs(2, NONE, 7);
        readIs(1, NONE);
    }

    private static void readUpTo() {
        for (int last : new int[] {0, -2, 100000, Integer.MIN_VALUE, Integer.MAX_VALUE}) {
            readIs(0, last);
            readIs(0, last, 5, 6);
            readIs(2, 5, 6, last);
            readIs(1, 5, last, 6);
            readIs(9, 1, 2, 3, 4, 5, 6, 7, 8, 9, last);
            readIs(10, 1, 2, 3, 4, 5, 6, 7, 8, 9, 10, last);
        }
        for (int may : new int[] {NONE, 1, 2, 99998, 99999}) {
            readIs(3, 5, may, 6);
        }
    }

    private static void readTenAtMost() {
        readIs(9, 1, 2, 3, 4, 5, 6, 7, 8, 9);
        readIs(10, 1, 2, 3, 4, 5, 6, 7, 8, 9, 10);
        readIs(10, 1, 2, 3, 4, 5, 6, 7, 8, 9, 10, 11);
        int[] items = new int[48];
        for (int i = 0; i < 48; i++) {
            items[i] = 48 - i;
        }
        readIs(10, items);
        ThreeMasters bytes = new ThreeMasters();
        bytes.sheet(0, 0, 4);
        // 255 is -1 as a byte, 127 the greatest, 128 below -1.
        for (int i = 0; i < 4; i++) {
            bytes.put(0, 0, i, new int[] {255, 127, 1, 128}[i]);
        }
        Due.is("read() of bytes", bytes.read(0), 3);
        Due.is("FOUND by 255", bytes.found(0, NONE), NONE);
        Due.is("FOUND by 127", bytes.found(1, NONE), 127);
        ThreeMasters shorts = new ThreeMasters();
        shorts.sheet(0, 1, 2);
        shorts.put(0, 1, 0, 32767);
        shorts.put(0, 1, 1, 32768);
        Due.is("read() of shorts", shorts.read(0), 1);
        Due.is("FOUND by 32767", shorts.found(0, NONE), 32767);
    }

    private static void fitsIs(int found, int slack, int want) {
        ThreeMasters x = Due.plan(ONE);
        x.shim(0, 37);
        x.set(0, slack);
        x.found(0, found);
        Due.is("FOUND " + found + ", SLACK " + slack + ": fits(0)", x.fits(0), want);
    }

    private static void fits() {
        Due.says("FITS: by which MEASURE and HABIT (of the nine, by numbers) a FLOOR's MEANT would have come out so,");
        Due.says("FITS, as bits. BAD.");
        fitsIs(108, 0, FEET_AND_SPANS);
        fitsIs(107, 0, 0);
        fitsIs(109, 0, 0);
        fitsIs(90, 0, ELLS_DOWN);
        fitsIs(89, 0, 0);
        fitsIs(91, 0, 0);
        fitsIs(135, 0, ELLS_UP);
        fitsIs(134, 0, 0);
        fitsIs(136, 0, 0);
        fitsIs(1, 0, 0);
        fitsIs(99999, 0, 0);
        // 108 and 37 of the SHIM are 145.
        fitsIs(145, 0, 0);
        ThreeMasters x = Due.plan("9f=0;8f=0");
        int[] want = {BAD, 511, 511, BAD};
        for (int f = -1; f <= 2; f++) {
            Due.is("fits(" + f + ")", x.fits(f), want[f + 1]);
        }
    }

    private static void fitsWithinSlack() {
        Due.says("within SLACK (0 to 99 GRAINS; 0 at first), SHIMS aside: as bits;");
        fitsIs(107, 1, FEET_AND_SPANS);
        fitsIs(109, 1, FEET_AND_SPANS);
        fitsIs(106, 1, 0);
        fitsIs(110, 1, 0);
        fitsIs(108, 17, FEET_AND_SPANS);
        fitsIs(108, 18, FEET_AND_SPANS + ELLS_DOWN);
        fitsIs(108, 26, FEET_AND_SPANS + ELLS_DOWN);
        fitsIs(108, 27, 511);
        fitsIs(108, 99, 511);
        // 99 and 100 away from 108, above and below.
        fitsIs(207, 99, FEET_AND_SPANS + ELLS_UP);
        fitsIs(208, 99, ELLS_UP);
        fitsIs(207, 98, ELLS_UP);
        fitsIs(9, 99, FEET_AND_SPANS + ELLS_DOWN);
        fitsIs(8, 99, ELLS_DOWN);
        fitsIs(9, 98, ELLS_DOWN);
        fitsIs(234, 99, ELLS_UP);
        fitsIs(235, 99, 0);
    }

    /** MEANT 113: 108, 120, 108 by feet; 90, 135, 135 by ells; 108, 117, 117 by spans. */
    private static void fitsByNumbers() {
        int[][] want = {{108, 1 + 4 + 64}, {120, 2}, {90, 8}, {135, 16 + 32}, {117, 128 + 256}, {113, 0}};
        for (int[] w : want) {
            ThreeMasters x = Due.plan("9f+5=4");
            x.found(0, w[0]);
            Due.is("FOUND " + w[0] + ": fits(0)", x.fits(0), w[1]);
        }
    }

    private static void fitsNotMeasured() {
        Due.says("a FLOOR that was not measured fits with all.");
        ThreeMasters x = Due.plan(ONE);
        Due.is("at first", x.fits(0), 511);
        x.found(0, 1);
        Due.is("measured", x.fits(0), 0);
        x.found(0, NONE);
        Due.is("no more", x.fits(0), 511);
        // MEANT 1 comes out 0 by many: 1 above NONE, which is no height.
        ThreeMasters low = Due.plan("1f=0");
        low.measure(0, 0, 1);
        low.found(0, 1);
        Due.is("FOUND 1", low.fits(0), 7);
        low.set(0, 1);
        Due.is("FOUND 1, SLACK 1", low.fits(0), 7 + 40 + 64 + 256);
    }

    private static void worldsAre(long want, String text, int... found) {
        ThreeMasters x = Due.plan(text);
        for (int f = 0; f < found.length; f++) {
            x.found(f, found[f]);
        }
        Due.is("worlds() of '" + text + "'", x.worlds(), want);
    }

    private static void worlds() {
        Due.says("WORLDS: in how many ways (one of the nine for each FLOOR) all FLOORS fit,");
        Due.says("`long worlds()`: WORLDS. (As any long.)");
        worldsAre(1, "");
        worldsAre(1, "", 1, 1);
        worldsAre(1, "9f=0;", 1);
        worldsAre(9, ONE);
        worldsAre(6, ONE, 108);
        worldsAre(1, ONE, 135);
        worldsAre(0, ONE, 134);
        worldsAre(6, ONE, 108, 134);
        worldsAre(0, "9f=0;9f=0", 108, 134);
        worldsAre(0, "9f=0;9f=0", 134, 108);
        worldsAre(0, "9f=0;9f=0;9f=0", NONE, NONE, 134);
        ThreeMasters x = Due.plan(ONE);
        x.found(0, 134);
        x.set(0, 1);
        Due.is("worlds() by SLACK", x.worlds(), 1);
        long most = 9;
        StringBuilder text = new StringBuilder(ONE);
        for (int n = 1; n <= 10; n++) {
            worldsAre(most, text.toString());
            text.append(";9f=0");
            most *= 7;
        }
    }

    private static void worldsNextToOneAnother() {
        Due.says("two that are next to one another and have like MEASURES having like HABITS, too;");
        // By ells down or to the nearest, both times: like HABITS.
        worldsAre(2, "9f=0;9f=0", 90, 90);
        worldsAre(2, "9f=0;9f=0;9f=0", 90, 90, 90);
        worldsAre(1, "9f=0;9f=0", 135, 135);
        // Each fits, but by ells with unlike HABITS.
        worldsAre(0, "9f=0;9f=0", 90, 135);
        worldsAre(0, "9f=0;9f=0", 135, 90);
        // Unlike MEASURES may have any HABITS.
        worldsAre(12, "9f=0;9f=0", 90, 108);
        // Those that are not next to one another may be as they like.
        worldsAre(12, "9f=0;9f=0;9f=0", 90, 108, 135);
        worldsAre(24, "9f=0;9f=0;9f=0", 90, 108, 90);
        worldsAre(6 * 4, "9f=0;9f=0", 108, 108);
    }

    private static void oddsAre(ThreeMasters x, int floor, long... want) {
        for (int i = 0; i < 6; i++) {
            Due.is("odds(" + floor + ", " + i / 2 + ", " + i % 2 + ")", x.odds(floor, i / 2, i % 2), want[i]);
        }
    }

    private static void odds() {
        Due.says("how many of these have a FLOOR in a MEASURE; ODDS of that, a FRACTION;");
        Due.says("ODDS that a FLOOR is in a MEASURE: above, below. BAD; NOT. (A refusal -x is the least long and x more.)");
        ThreeMasters x = Due.plan("9f=0;9f=0");
        oddsAre(x, 0, 1, 3, 1, 3, 1, 3);
        oddsAre(x, 1, 1, 3, 1, 3, 1, 3);
        x.found(0, 135);
        oddsAre(x, 0, 0, 1, 1, 1, 0, 1);
        oddsAre(x, 1, 3, 7, 1, 7, 3, 7);
        x.found(1, 90);
        x.found(0, 108);
        oddsAre(x, 0, 1, 2, 0, 1, 1, 2);
        oddsAre(x, 1, 0, 1, 1, 1, 0, 1);
        for (int f : new int[] {-1, 2}) {
            long bad = Due.refusal(BAD);
            oddsAre(x, f, bad, bad, bad, bad, bad, bad);
        }
    }

    private static void oddsOfNone() {
        Due.says("NOT, if there are none.");
        long not = Due.refusal(ThreeMasters.NOT);
        ThreeMasters x = Due.plan("9f=0;9f=0");
        x.found(1, 134);
        oddsAre(x, 0, not, not, not, not, not, not);
        oddsAre(x, 1, not, not, not, not, not, not);
        x.set(0, 1);
        // Only by ells, cut up; FLOOR 0 by feet, by spans, or like it.
        oddsAre(x, 0, 3, 7, 1, 7, 3, 7);
        x.set(0, 0);
        x.found(0, 90);
        x.found(1, 135);
        oddsAre(x, 0, not, not, not, not, not, not);
        Due.is("BAD ahead of NOT", x.odds(2, 0, 0), Due.refusal(BAD));
        Due.is("BAD ahead of NOT: MEASURE", x.odds(0, 3, 0), Due.refusal(BAD));
        Due.is("BAD ahead of NOT: what", x.odds(0, 0, 2), Due.refusal(BAD));
    }
}
