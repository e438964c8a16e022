import java.util.Arrays;
import java.util.Map;

/** Each refused call: its answer, that it comes at once beyond the last number that may be, and that nothing is changed. */
public final class RefusalsTest {
    private static final int BAD = ThreeMasters.BAD, ANY_BAD = -100002, LEAST = Integer.MIN_VALUE, MOST = Integer.MAX_VALUE;
    private static final int NULL = -11, INDEX = -12, CAST = -13, STORE = -14, SIZE = -15;
    private static final long LONG_BAD = Long.MIN_VALUE + 2, LONG_NOT = Long.MIN_VALUE + 3;

    /** A call by the numbers that are tried. */
    interface Act {
        long on(ThreeMasters x, int... a);
    }

    /** What an object has that nothing was refused to. */
    private static final Map<String, Long> UNTOUCHED = Scene.seen(Scene.rich());

    public static void main(String[] args) {
        Due.says("Refusals, the first that fits, in the order told at each act: BAD -2 (a number not as told, no such thing), "
            + "NULL, NOT -3 (as told), FULL -4, other FINDINGS. They change nothing (FINDINGS but count() 8). Where the "
            + "answer is a long, a refusal -x is the least long and x more; where any number is told, it is -100000 less x.");
        badMeasuresAndPlans();
        badHowFarOff();
        badFound();
        badShaftsAndMending();
        badLoadsAndStones();
        badSheets();
        badOfGet();
        noFloors();
        findings();
        findingsOfCopy();
        orderOfRefusals();
        full();
        not();
        Due.end();
    }

    private static int[] to(int least, int most) {
        return new int[] {least, most};
    }

    private static void refused(String call, long due, Act act, int... a) {
        ThreeMasters x = Scene.rich();
        String told = call + Arrays.toString(a);
        Due.is(told, act.on(x, a), due);
        Scene.alike("behind " + told, Scene.seen(x), UNTOUCHED);
    }

    /**
     * Each number in turn at its two ends and beyond them, the others all at one end of theirs: beyond it is refused,
     * within it is not.
     */
    private static void bounds(String call, long bad, Act act, int[]... ranges) {
        for (int end = 0; end < 2; end++) {
            for (int i = 0; i < ranges.length; i++) {
                int[] a = new int[ranges.length];
                for (int k = 0; k < a.length; k++) {
                    a[k] = ranges[k][end];
                }
                for (int beyond : new int[] {ranges[i][0] - 1, ranges[i][1] + 1, LEAST, MOST}) {
                    a[i] = beyond;
                    refused(call, bad, act, a);
                }
                for (int within : ranges[i]) {
                    a[i] = within;
                    Due.holds(call + Arrays.toString(a) + " is not refused", act.on(Scene.rich(), a) != bad);
                }
            }
        }
    }

    private static void badMeasuresAndPlans() {
        bounds("measure(k, 0, v)", BAD, (x, a) -> x.measure(a[0], 0, a[1]), to(0, 2), to(1, 999));
        bounds("measure(k, 1, v)", BAD, (x, a) -> x.measure(a[0], 1, a[1]), to(0, 2), to(1, 9));
        bounds("measure(k, what, 1)", BAD, (x, a) -> x.measure(a[0], a[1], 1), to(0, 2), to(0, 1));
        bounds("type(b)", BAD, (x, a) -> x.type(a[0]), to(0, 255));
        bounds("floor(f, what)", ANY_BAD, (x, a) -> x.floor(a[0], a[1]), to(0, Scene.FLOORS - 1), to(0, 5));
        bounds("cut(length, k, habit)", BAD, (x, a) -> x.cut(a[0], a[1], a[2]), to(0, 99999), to(0, 2), to(0, 2));
        bounds("shim(f, v)", ANY_BAD, (x, a) -> x.shim(a[0], a[1]), to(0, 9), to(-99, 99));
        int[][] settings = {to(0, 99), to(1, 999), to(0, 9), to(0, 9)};
        for (int what = 0; what < 4; what++) {
            int setting = what;
            bounds("set(" + what + ", v)", BAD, (x, a) -> x.set(setting, a[0]), settings[what]);
        }
        bounds("set(what, 1)", BAD, (x, a) -> x.set(a[0], 1), to(0, 3));
    }

    private static void badHowFarOff() {
        int[] floors = to(0, Scene.FLOORS - 1);
        bounds("sill(f, what)", ANY_BAD, (x, a) -> x.sill(a[0], a[1]), to(0, Scene.FLOORS), to(0, 2));
        bounds("stairs(f, n, height)", ANY_BAD, (x, a) -> x.stairs(a[0], a[1], a[2]), floors, to(1, 40), to(1, 99));
        bounds("even(f, from, 99, what)", BAD, (x, a) -> x.even(a[0], a[1], 99, a[2]), floors, to(1, 99), to(0, 2));
        bounds("even(f, 1, to, what)", BAD, (x, a) -> x.even(a[0], 1, a[1], a[2]), floors, to(1, 99), to(0, 2));
        bounds("even(0, 50, to, 0)", BAD, (x, a) -> x.even(0, 50, a[0], 0), to(50, 99));
        bounds("blame(k, which, what)", LONG_BAD, (x, a) -> x.blame(a[0], a[1], a[2]), to(0, 2), to(0, 1), to(0, 1));
    }

    private static void badFound() {
        int[] floors = to(0, Scene.FLOORS - 1);
        bounds("found(f, v)", -5, (x, a) -> x.found(a[0], a[1]), to(0, 9), to(1, 99999));
        refused("found(f, -2)", -5, (x, a) -> x.found(a[0], -2), 0);
        refused("found(f, NONE)", -5, (x, a) -> x.found(a[0], -1), 10);
        Due.is("found(0, NONE)", Scene.rich().found(0, -1), 68);
        bounds("read(s)", BAD, (x, a) -> x.read(a[0]), to(0, 3));
        bounds("fits(f)", BAD, (x, a) -> x.fits(a[0]), floors);
        bounds("odds(f, k, what)", LONG_BAD, (x, a) -> x.odds(a[0], a[1], a[2]), floors, to(0, 2), to(0, 1));
    }

    private static void badShaftsAndMending() {
        int[] sills = to(0, Scene.FLOORS);
        bounds("lean(sill, v)", ANY_BAD, (x, a) -> x.lean(a[0], a[1]), to(0, 10), to(-99, 99));
        bounds("runs(w, from, top)", BAD, (x, a) -> x.runs(a[0], a[1], Scene.FLOORS), to(1, 999), sills);
        bounds("runs(w, 0, to)", BAD, (x, a) -> x.runs(a[0], 0, a[1]), to(1, 999), sills);
        bounds("runs(1, 2, to)", BAD, (x, a) -> x.runs(1, 2, a[0]), to(2, Scene.FLOORS));
        bounds("longest(w, what)", BAD, (x, a) -> x.longest(a[0], a[1]), to(1, 999), to(0, 1));
        bounds("mended(sills, f)", ANY_BAD, (x, a) -> x.mended(a[0], a[1]), to(0, 1023), to(-1, Scene.FLOORS - 1));
        bounds("next(m, what)", BAD, (x, a) -> x.next(a[0], a[1]), to(1, 9999), to(0, 1));
    }

    private static void badLoadsAndStones() {
        bounds("weigh(f, v)", BAD, (x, a) -> x.weigh(a[0], a[1]), to(0, 9), to(0, 99));
        bounds("bears(f, k)", BAD, (x, a) -> x.bears(a[0], a[1]), to(0, Scene.FLOORS - 1), to(0, 2));
        bounds("safe(k)", BAD, (x, a) -> x.safe(a[0]), to(0, 2));
        bounds("stones(what)", BAD, (x, a) -> x.stones(a[0]), to(0, 1));
    }

    private static void badSheets() {
        bounds("sheet(s, form, 0)", BAD, (x, a) -> x.sheet(a[0], a[1], 0), to(0, 3), to(0, 2));
        for (int n : new int[] {49, 50, MOST}) {
            refused("sheet(0, 0, n)", BAD, (x, a) -> x.sheet(0, 0, a[0]), n);
        }
        Due.is("sheet(0, 0, 47)", Scene.rich().sheet(0, 0, 47), 47);
        Due.is("sheet(0, 0, 48)", Scene.rich().sheet(0, 0, 48), 48);
        bounds("lose(s)", BAD, (x, a) -> x.lose(a[0]), to(0, 3));
        bounds("put(s, form, 0, 0)", BAD, (x, a) -> x.put(a[0], a[1], 0, 0), to(0, 3), to(0, 2));
        bounds("copy(s, 0, t, 0, 0)", BAD, (x, a) -> x.copy(a[0], 0, a[1], 0, 0), to(0, 3), to(0, 3));
        bounds("write(s)", BAD, (x, a) -> x.write(a[0]), to(0, 3));
        bounds("count(what)", BAD, (x, a) -> x.count(a[0]), to(0, 8));
    }

    /** All refusals of get() have one answer, so only count(8) tells BAD, which leaves it, from the others. */
    private static void badOfGet() {
        for (int beyond : new int[] {-1, 4, LEAST, MOST}) {
            refused("get(s, 0, 0)", LEAST, (x, a) -> x.get(a[0], 0, 0), beyond);
        }
        for (int beyond : new int[] {-1, 3, LEAST, MOST}) {
            refused("get(0, form, 0)", LEAST, (x, a) -> x.get(0, a[0], 0), beyond);
            refused("get(3, form, 0), LOST", LEAST, (x, a) -> x.get(3, a[0], 0), beyond);
        }
    }

    /** Where there is no FLOOR, there is no first one either, but the SILL of the top. */
    private static void noFloors() {
        ThreeMasters x = new ThreeMasters();
        Due.is("floor(0, 4)", x.floor(0, 4), ANY_BAD);
        Due.is("sill(0, 0)", x.sill(0, 0), 0);
        Due.is("sill(1, 0)", x.sill(1, 0), ANY_BAD);
        Due.is("stairs(0, 1, 1)", x.stairs(0, 1, 1), ANY_BAD);
        Due.is("even(0, 1, 2, 0)", x.even(0, 1, 2, 0), BAD);
        Due.is("fits(0)", x.fits(0), BAD);
        Due.is("odds(0, 0, 0)", x.odds(0, 0, 0), LONG_BAD);
        Due.is("bears(0, 0)", x.bears(0, 0), BAD);
        Due.is("runs(1, 0, 0)", x.runs(1, 0, 0), 1);
        Due.is("runs(1, 0, 1)", x.runs(1, 0, 1), BAD);
        Due.is("mended(1, 0)", x.mended(1, 0), ANY_BAD);
        Due.is("mended(1, NONE)", x.mended(1, -1), 0);
    }

    private static void found(String call, int number, long due, Act act) {
        ThreeMasters x = Scene.rich();
        Due.is(call, act.on(x), due);
        Due.is("count(8) behind " + call, x.count(8), number);
        Scene.alike("behind " + call, Scene.seen(x), UNTOUCHED, "count(8)");
    }

    private static void findings() {
        Due.says("FINDINGS (answers -10 less the number; they change nothing but count() 8): 1 NULL: the SHEET is LOST; "
            + "2 INDEX: there is no such item; 3 CAST: it has another FORM; 4 STORE: unlike FORMS; 5 SIZE: below 0.");
        found("read(3)", 1, NULL, (x, a) -> x.read(3));
        found("lose(3)", 1, NULL, (x, a) -> x.lose(3));
        found("write(3)", 1, NULL, (x, a) -> x.write(3));
        found("put(3, 0, 0, 5)", 1, NULL, (x, a) -> x.put(3, 0, 0, 5));
        found("get(3, 0, 0)", 1, LEAST, (x, a) -> x.get(3, 0, 0));
        for (int s = 0; s < 3; s++) {
            int sheet = s;
            int size = 3 + s;
            for (int i : new int[] {-1, size, LEAST, MOST}) {
                found("put() of item " + i, 2, INDEX, (x, a) -> x.put(sheet, sheet, i, 5));
                found("get() of item " + i, 2, LEAST, (x, a) -> x.get(sheet, sheet, i));
            }
            for (int i : new int[] {0, size - 1}) {
                Due.is("put() of item " + i, Scene.rich().put(s, s, i, 5), 1);
                Due.is("get() of item " + i, Scene.rich().get(s, s, i), 20 * s + i + 1);
            }
            for (int form = 0; form < 3; form++) {
                int other = form;
                if (form != s) {
                    found("put() by FORM " + form, 3, CAST, (x, a) -> x.put(sheet, other, 0, 5));
                    found("get() by FORM " + form, 3, LEAST, (x, a) -> x.get(sheet, other, 0));
                }
            }
            found("sheet(" + s + ", 0, -1)", 5, SIZE, (x, a) -> x.sheet(sheet, 0, -1));
            found("sheet(" + s + ", 2, MIN)", 5, SIZE, (x, a) -> x.sheet(sheet, 2, LEAST));
        }
    }

    private static void findingsOfCopy() {
        found("copy, s LOST", 1, NULL, (x, a) -> x.copy(3, 0, 0, 0, 1));
        found("copy, t LOST", 1, NULL, (x, a) -> x.copy(0, 0, 3, 0, 1));
        found("copy, both LOST", 1, NULL, (x, a) -> x.copy(3, 0, 3, 0, 0));
        for (int s = 0; s < 3; s++) {
            for (int t = 0; t < 3; t++) {
                int from = s;
                int to = t;
                if (s != t) {
                    found("copy(" + s + ", 0, " + t + ", 0, 0)", 4, STORE, (x, a) -> x.copy(from, 0, to, 0, 0));
                }
            }
        }
        // SHEET 2 has five items.
        int[][] beyond = {{-1, 0, 1}, {0, -1, 1}, {0, 0, -1}, {0, 0, 6}, {1, 0, 5}, {0, 1, 5}, {5, 0, 1}, {0, 5, 1}, {6, 0, 0},
            {0, 6, 0}, {-1, 0, 0}, {0, -1, 0}, {MOST, 0, 1}, {0, MOST, 1}, {0, 0, MOST}, {MOST, 0, MOST}, {0, MOST, MOST},
            {1, 1, MOST}, {LEAST, 0, 1}, {0, LEAST, 1}, {0, 0, LEAST}, {LEAST, LEAST, LEAST}, {6, 0, -1}, {MOST, MOST, LEAST}};
        for (int[] b : beyond) {
            found("copy() by " + Arrays.toString(b), 2, INDEX, (x, a) -> x.copy(2, b[0], 2, b[1], b[2]));
        }
        int[][] within = {{0, 0, 5}, {1, 0, 4}, {0, 1, 4}, {4, 0, 1}, {0, 4, 1}, {5, 0, 0}, {0, 5, 0}, {5, 5, 0}, {0, 0, 0}};
        for (int[] w : within) {
            Due.is("copy() by " + Arrays.toString(w), Scene.rich().copy(2, w[0], 2, w[1], w[2]), 1);
        }
    }

    private static void orderOfRefusals() {
        refused("BAD ahead of NULL: read(4)", BAD, (x, a) -> x.read(4));
        refused("BAD ahead of NULL: put(3, 3, ..)", BAD, (x, a) -> x.put(3, 3, 0, 0));
        refused("BAD ahead of CAST and INDEX: put(0, 3, 9, ..)", BAD, (x, a) -> x.put(0, 3, 9, 0));
        refused("BAD ahead of NULL: copy(3, 0, 4, ..)", BAD, (x, a) -> x.copy(3, 0, 4, 0, 1));
        refused("BAD ahead of NULL: copy(4, 0, 3, ..)", BAD, (x, a) -> x.copy(4, 0, 3, 0, 1));
        refused("BAD ahead of SIZE: sheet(4, ..)", BAD, (x, a) -> x.sheet(4, 0, -1));
        refused("BAD ahead of SIZE: sheet(0, 3, -1)", BAD, (x, a) -> x.sheet(0, 3, -1));
        found("NULL ahead of CAST and INDEX: put(3, ..)", 1, NULL, (x, a) -> x.put(3, 2, -1, 0));
        found("CAST ahead of INDEX: put(0, 1, -1, ..)", 3, CAST, (x, a) -> x.put(0, 1, -1, 0));
        found("CAST ahead of INDEX: get(0, 1, 3)", 3, LEAST, (x, a) -> x.get(0, 1, 3));
        found("NULL ahead of INDEX: get(3, 1, -1)", 1, LEAST, (x, a) -> x.get(3, 1, -1));
        found("NULL ahead of INDEX: copy(3, -1, 0, ..)", 1, NULL, (x, a) -> x.copy(3, -1, 0, -1, -1));
        found("NULL ahead of INDEX: copy(0, -1, 3, ..)", 1, NULL, (x, a) -> x.copy(0, -1, 3, -1, -1));
        found("STORE ahead of INDEX: copy(0, -1, 1, ..)", 4, STORE, (x, a) -> x.copy(0, -1, 1, -1, -1));
    }

    /** A plan of ten FLOORS that takes all 80 bytes. */
    private static ThreeMasters brimful() {
        return Due.plan("99f+1=0;".repeat(9) + "99f+11=0");
    }

    private static void full() {
        Map<String, Long> untouched = Scene.seen(brimful());
        for (int b : new int[] {0, ';', 255}) {
            ThreeMasters x = brimful();
            Due.is("type(" + b + ") when full", x.type(b), ThreeMasters.FULL);
            Scene.alike("behind FULL", Scene.seen(x), untouched);
        }
        for (int b : new int[] {-1, 256}) {
            ThreeMasters x = brimful();
            Due.is("BAD ahead of FULL: type(" + b + ")", x.type(b), BAD);
            Scene.alike("behind BAD when full", Scene.seen(x), untouched);
        }
    }

    private static ThreeMasters barren() {
        ThreeMasters x = Due.plan("1f=0;2f=0");
        x.found(1, 99999);
        x.shim(0, 99);
        x.weigh(0, 4);
        return x;
    }

    /** All come out as they were MEANT, and no WORLD fits. */
    private static void not() {
        Map<String, Long> untouched = Scene.seen(barren());
        for (int k = 0; k < 3; k++) {
            for (int what = 0; what < 2; what++) {
                ThreeMasters x = barren();
                Due.is("blame(" + k + ", 1, " + what + ")", x.blame(k, 1, what), LONG_NOT);
                Due.is("odds(0, " + k + ", " + what + ")", x.odds(0, k, what), LONG_NOT);
                Due.is("BAD ahead of NOT: blame(3, 1, 0)", x.blame(3, 1, what), LONG_BAD);
                Due.is("BAD ahead of NOT: odds(2, 0, 0)", x.odds(2, k, what), LONG_BAD);
                Scene.alike("behind NOT", Scene.seen(x), untouched);
            }
        }
        ThreeMasters x = barren();
        x.measure(1, 0, 999);
        Due.typed(x, ";1f=4");
        Due.is("mended(4, NONE)", x.mended(1023, -1), ThreeMasters.NONE);
        Due.is("mended(4, 2)", x.mended(1023, 2), -100003);
        Due.is("BAD ahead of NOT: mended(4, 3)", x.mended(1023, 3), ANY_BAD);
        Due.is("SHIMS stay", x.floor(0, 5), 99);
        Due.is("the top stays", x.sill(3, 2), 99 + 999 - 12);
    }
}
