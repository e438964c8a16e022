import java.util.LinkedHashMap;
import java.util.Map;

/** An object with something in every corner, and all that can be seen of one, so that two can be held side by side. */
final class Scene {
    /** MEANT 67, 93, 27; BUILT 45, 99, 24 but for shims. */
    static final String PLAN = "5f+7=5;2e+1=7;3s=2";
    static final int FLOORS = 3;
    /** SHEETS 0 to 2 have their own number as FORM, and so many items; 3 is LOST. */
    private static final int[] ITEMS = {3, 4, 5};

    private Scene() {
    }

    static ThreeMasters rich() {
        return furnished(Due.plan(PLAN));
    }

    /** All but the plan: 64 calls. */
    static ThreeMasters furnished(ThreeMasters x) {
        for (int k = 0; k < 3; k++) {
            x.measure(k, 1, 2 + k);
        }
        for (int f = 0; f < 10; f++) {
            x.shim(f, 3 * f - 11);
            x.weigh(f, 1 + f);
        }
        x.found(0, 68);
        x.found(9, 7);
        for (int sill = 0; sill <= 10; sill++) {
            x.lean(sill, 50 - 9 * sill);
        }
        for (int what = 0; what < 4; what++) {
            x.set(what, 3 + what);
        }
        x.set(1, 180);
        for (int s = 0; s < ITEMS.length; s++) {
            x.sheet(s, s, ITEMS[s]);
            for (int i = 0; i < ITEMS[s]; i++) {
                x.put(s, s, i, 20 * s + i + 1);
            }
        }
        return x;
    }

    /** Every answer by its call. It takes the object apart, so it is asked once, at last: some 200 calls for 3 floors. */
    static Map<String, Long> seen(ThreeMasters x) {
        Map<String, Long> seen = new LinkedHashMap<>();
        for (int what = 8; what >= 0; what--) {
            seen.put("count(" + what + ")", (long) x.count(what));
        }
        seen.put("fault()", (long) x.fault());
        seenOfTower(x, seen);
        seenOfFloors(x, seen);
        seenOfSheets(x, seen);
        seenByChange(x, seen);
        return seen;
    }

    private static void seenOfTower(ThreeMasters x, Map<String, Long> seen) {
        seen.put("digest()", x.digest());
        seen.put("worst()", (long) x.worst());
        seen.put("worlds()", x.worlds());
        seen.put("lifts()", (long) x.lifts());
        seen.put("more()", (long) x.more());
        seen.put("mended(1023, NONE)", (long) x.mended(1023, -1));
        for (int i = 0; i < 2; i++) {
            seen.put("longest(100, " + i + ")", (long) x.longest(100, i));
            seen.put("next(77, " + i + ")", (long) x.next(77, i));
            seen.put("stones(" + i + ")", (long) x.stones(i));
        }
        for (int k = 0; k < 3; k++) {
            seen.put("safe(" + k + ")", (long) x.safe(k));
            seen.put("cut(77, " + k + ", 2)", (long) x.cut(77, k, 2));
            for (int i = 0; i < 4; i++) {
                seen.put("blame(" + k + ", " + i / 2 + ", " + i % 2 + ")", x.blame(k, i / 2, i % 2));
            }
        }
    }

    private static void seenOfFloors(ThreeMasters x, Map<String, Long> seen) {
        int top = x.count(0);
        for (int f = 0; f <= top; f++) {
            for (int what = 0; what < 3; what++) {
                seen.put("sill(" + f + ", " + what + ")", (long) x.sill(f, what));
            }
            for (int what = 0; what < 6; what++) {
                seen.put("floor(" + f + ", " + what + ")", (long) x.floor(f, what));
            }
            seen.put("runs(100, 0, " + f + ")", (long) x.runs(100, 0, f));
            seen.put("fits(" + f + ")", (long) x.fits(f));
            seen.put("odds(" + f + ", 0, 0)", x.odds(f, 0, 0));
            seen.put("bears(" + f + ", 1)", (long) x.bears(f, 1));
            seen.put("mended(1023, " + f + ")", (long) x.mended(1023, f));
        }
    }

    private static void seenOfSheets(ThreeMasters x, Map<String, Long> seen) {
        for (int s = 0; s < ITEMS.length; s++) {
            for (int i = 0; i < ITEMS[s]; i++) {
                seen.put("get(" + s + ", " + s + ", " + i + ")", (long) x.get(s, s, i));
            }
        }
        for (int s = 0; s < 4; s++) {
            seen.put("lose(" + s + ")", (long) x.lose(s));
        }
    }

    /** What is only told by the call that changes it. */
    private static void seenByChange(ThreeMasters x, Map<String, Long> seen) {
        for (int f = 0; f < 10; f++) {
            seen.put("found(" + f + ", NONE)", (long) x.found(f, -1));
            seen.put("shim(" + f + ", 0)", (long) x.shim(f, 0));
            seen.put("weigh(" + f + ", 0)", (long) x.weigh(f, 0));
        }
        for (int sill = 0; sill <= 10; sill++) {
            seen.put("lean(" + sill + ", 0)", (long) x.lean(sill, 0));
        }
        for (int k = 0; k < 3; k++) {
            seen.put("measure(" + k + ", 0, 1)", (long) x.measure(k, 0, 1));
            seen.put("measure(" + k + ", 1, 1)", (long) x.measure(k, 1, 1));
        }
        for (int what = 0; what < 4; what++) {
            seen.put("set(" + what + ", 1)", (long) x.set(what, 1));
        }
        seen.put("wipe()", (long) x.wipe());
    }

    /** Both answer alike in all but the calls that are named. */
    static void alike(String what, Map<String, Long> got, Map<String, Long> want, String... aside) {
        Map<String, Long> left = new LinkedHashMap<>(got);
        Map<String, Long> right = new LinkedHashMap<>(want);
        for (String call : aside) {
            left.remove(call);
            right.remove(call);
        }
        Due.holds(what + ": as much is seen", left.keySet().equals(right.keySet()));
        for (String call : right.keySet()) {
            Due.is(what + ": " + call, left.getOrDefault(call, Long.MAX_VALUE), right.get(call));
        }
    }
}
