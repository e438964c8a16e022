/** Promises 1 to 9: a new object, measure, type, wipe, fault, floor, cut, shim, set. */
public final class MeasuresPlansTest {
    private static final int BAD = ThreeMasters.BAD, ANY_BAD = -100002;

    public static void main(String[] args) {
        newObject();
        measure();
        type();
        wipe();
        faults();
        floor();
        planIsEmptyWithFault();
        cut();
        shim();
        set();
        Due.end();
    }

    private static void newObject() {
        ThreeMasters x = new ThreeMasters();
        Due.is("NONE", ThreeMasters.NONE, -1);
        Due.is("BAD", ThreeMasters.BAD, -2);
        Due.is("NOT", ThreeMasters.NOT, -3);
        Due.is("FULL", ThreeMasters.FULL, -4);
        int[] counts = {0, 0, 0, 0, 0, 200, 2, 5, 0};
        for (int what = 0; what < counts.length; what++) {
            Due.is("new: count(" + what + ")", x.count(what), counts[what]);
        }
        Due.is("new: fault()", x.fault(), -1);
        for (int f = 0; f < 10; f++) {
            Due.is("new: found(" + f + ")", x.found(f, -1), -1);
            Due.is("new: shim(" + f + ")", x.shim(f, 0), 0);
            Due.is("new: weigh(" + f + ")", x.weigh(f, 0), 0);
        }
        for (int sill = 0; sill <= 10; sill++) {
            Due.is("new: lean(" + sill + ")", x.lean(sill, 0), 0);
        }
        for (int s = 0; s < 4; s++) {
            Due.is("new: lose(" + s + ")", x.lose(s), -11);
        }
    }

    private static void measure() {
        ThreeMasters x = new ThreeMasters();
        Due.is("measure(0, 0, 1)", x.measure(0, 0, 1), 12);
        Due.is("measure(1, 0, 999)", x.measure(1, 0, 999), 45);
        Due.is("measure(2, 0, 8)", x.measure(2, 0, 8), 9);
        Due.is("measure(0, 1, 9)", x.measure(0, 1, 9), 1);
        Due.is("measure(1, 1, 2)", x.measure(1, 1, 2), 1);
        Due.is("measure(2, 1, 1)", x.measure(2, 1, 1), 1);
        int[][] bad = {{-1, 0, 1}, {3, 0, 1}, {0, -1, 1}, {0, 2, 1}, {0, 0, 0}, {0, 0, 1000}, {0, 1, 0}, {0, 1, 10},
            {0, 0, -1}, {Integer.MIN_VALUE, 0, 1}, {0, Integer.MAX_VALUE, 1}, {0, 0, Integer.MIN_VALUE}};
        for (int[] b : bad) {
            Due.is("bad measure", x.measure(b[0], b[1], b[2]), BAD);
        }
        Due.is("after bad ones: SIZE 0", x.measure(0, 0, 2), 1);
        Due.is("after bad ones: GRID 0", x.measure(0, 1, 2), 9);
        Due.is("SIZE 1 alone", x.measure(1, 0, 3), 999);
        Due.is("GRID 1 alone", x.measure(1, 1, 3), 2);
    }

    private static void type() {
        ThreeMasters x = new ThreeMasters();
        Due.is("type(-1)", x.type(-1), BAD);
        Due.is("type(256)", x.type(256), BAD);
        Due.is("count(1) behind bad ones", x.count(1), 0);
        for (int n = 1; n <= 80; n++) {
            Due.is("type, byte " + n, x.type(n % 2 == 0 ? 0 : 255), n);
        }
        Due.is("type, byte 81", x.type(48), ThreeMasters.FULL);
        Due.is("type(256) when full", x.type(256), BAD);
        Due.is("count(1) when full", x.count(1), 80);
        x.wipe();
        Due.is("type behind wipe()", x.type(48), 1);
    }

    private static void wipe() {
        ThreeMasters x = Due.plan("9f=0;8s=1");
        x.found(0, 7);
        x.shim(1, 5);
        Due.is("wipe()", x.wipe(), 9);
        Due.is("wipe() again", x.wipe(), 0);
        Due.is("count(0) behind wipe()", x.count(0), 0);
        Due.is("count(1) behind wipe()", x.count(1), 0);
        Due.is("fault() behind wipe()", x.fault(), -1);
        Due.is("FOUND stays", x.found(0, 7), 7);
        Due.is("SHIMMED stays", x.shim(1, 5), 5);
    }

    private static void faultOf(String text, int want) {
        ThreeMasters x = Due.plan(text);
        Due.is("fault() of '" + text + "'", x.fault(), want);
        Due.is("bytes of '" + text + "'", x.count(1), text.length());
    }

    private static void faults() {
        faultOf("", -1);
        faultOf("1f=0", -1);
        faultOf("99s+11=8;01e+01=7;10f+10=0", -1);
        faultOf("0", 0);
        faultOf("00f=0", 0);
        faultOf("0f=0", 0);
        faultOf("100f=0", 2);
        faultOf("f=0", 0);
        faultOf("-1f=0", 0);
        faultOf("9", 1);
        faultOf("99", 2);
        faultOf("9 f=0", 1);
        faultOf("9F=0", 1);
        faultOf("9f", 2);
        faultOf("9f0", 2);
        faultOf("9f+", 3);
        faultOf("9f+=0", 3);
        faultOf("9f+0", 3);
        faultOf("9f+00=1", 3);
        faultOf("9f+12", 3);
        faultOf("9f+123", 3);
        faultOf("9f+99=0", 3);
        faultOf("9f+112", 5);
        faultOf("9f+1", 4);
        faultOf("9f+1+1=0", 4);
        faultOf("9f++1=0", 3);
        faultOf("9f=", 3);
        faultOf("9f=9", 3);
        faultOf("9f=/", 3);
        faultOf("9f=:", 3);
        faultOf("9f=00", 4);
        faultOf("9f=0,9f=0", 4);
        faultOf("9f=0;", 5);
        faultOf("9f=0;;", 5);
        faultOf("9f=0;0e=1", 5);
        faultOf("9f=0;8e+3=1;7s+13=2", 15);
        faultOf(";", 0);
        faultOf("9/=0", 1);
        faultOf("9:=0", 1);
        faultOf("" + (char) 0, 0);
        faultOf("9f=0" + (char) 255, 4);
        String ten = "1f=0;1f=1;1f=2;1f=3;1f=4;1f=5;1f=6;1f=7;1f=8;1f=0";
        faultOf(ten, -1);
        faultOf(ten + ";", 50);
        faultOf(ten + ";1f=0", 50);
        faultOf(ten + ";x", 50);
        faultOf(ten + "x", 49);
        String eight = "99f+11=8;".repeat(8);
        faultOf(eight + "99f+11=8", -1);
        faultOf(eight + "9f=0;9f=", 80);
        faultOf(eight + "9f=0;9f0", 79);
        ThreeMasters again = Due.plan("9f=0");
        again.wipe();
        again.type('9');
        Due.is("fault() of '9' where more was wiped", again.fault(), 1);
        Due.is("ten FLOORS", Due.plan(ten).count(0), 10);
    }

    private static void floor() {
        ThreeMasters x = Due.plan("5f+7=5;2e+1=7;3s=2");
        int[][] want = {{67, 45, 1, 2, -1, 0}, {93, 99, 2, 1, 40, 0}, {27, 24 - 7, 0, 2, -1, -7}};
        x.found(1, 40);
        x.shim(2, -7);
        for (int f = 0; f < 3; f++) {
            for (int what = 0; what <= 5; what++) {
                Due.is("floor(" + f + ", " + what + ")", x.floor(f, what), want[f][what]);
            }
        }
        x.measure(1, 0, 13);
        Due.is("MEANT by another SIZE (2 by 13 and 13 by 12, cut)", x.floor(1, 0), 27);
        Due.is("BUILT by another SIZE (67 by 13 is 5 and 2)", x.floor(0, 1), 65);
        int[][] bad = {{-1, 0}, {3, 0}, {3, 4}, {3, 5}, {9, 4}, {10, 0}, {0, -1}, {0, 6}, {Integer.MAX_VALUE, 0},
            {Integer.MIN_VALUE, 5}, {0, Integer.MIN_VALUE}};
        for (int[] b : bad) {
            Due.is("bad floor(" + b[0] + ", " + b[1] + ")", x.floor(b[0], b[1]), ANY_BAD);
        }
        Due.is("greatest MEANT", meantOf(999, "99f+11=0"), 99816);
        Due.is("least MEANT", meantOf(1, "1f+11=0"), 1);
    }

    private static int meantOf(int size, String text) {
        ThreeMasters x = Due.plan(text);
        x.measure(0, 0, size);
        return x.floor(0, 0);
    }

    private static void planIsEmptyWithFault() {
        ThreeMasters x = Due.plan("9f=0;8s=1");
        Due.is("FLOORS", x.count(0), 2);
        x.type(';');
        Due.is("FLOORS with a FAULT", x.count(0), 0);
        Due.is("all MEANT with a FAULT", x.count(2), 0);
        Due.is("floor() with a FAULT", x.floor(0, 0), ANY_BAD);
        Due.is("worlds() with a FAULT", x.worlds(), 1);
        Due.typed(x, "7e=2");
        Due.is("FLOORS again", x.count(0), 3);
        Due.is("all MEANT again", x.count(2), 108 + 72 + 315);
    }

    private static void cut() {
        ThreeMasters x = new ThreeMasters();
        x.measure(0, 0, 10);
        x.measure(0, 1, 4);
        int[] lengths = {0, 1, 2, 3, 4, 5, 9, 10, 11};
        int[][] want = {{0, 0, 0}, {0, 2, 0}, {0, 2, 2}, {2, 5, 2}, {2, 5, 5}, {5, 5, 5}, {7, 10, 10}, {10, 10, 10},
            {10, 12, 10}};
        for (int i = 0; i < lengths.length; i++) {
            for (int habit = 0; habit < 3; habit++) {
                Due.is("cut(" + lengths[i] + ", 0, " + habit + ")", x.cut(lengths[i], 0, habit), want[i][habit]);
            }
        }
        Due.is("one over, cut up", x.cut(46, 1, 1), 90);
        Due.is("half to the lesser", x.cut(45 * 3, 1, 2), 135);
        x.measure(1, 0, 6);
        Due.is("3 by 6, nearest", x.cut(3, 1, 2), 0);
        Due.is("9 by 6, nearest", x.cut(9, 1, 2), 6);
        x.measure(2, 0, 999);
        x.measure(2, 1, 9);
        Due.is("cut(99999, 2, 0)", x.cut(99999, 2, 0), 99900 + 0);
        Due.is("cut(99999, 2, 1)", x.cut(99999, 2, 1), 100011);
        x.measure(2, 0, 1);
        Due.is("cut(99999, 2, 2)", x.cut(99999, 2, 2), 99999);
        int[][] bad = {{-1, 0, 0}, {100000, 0, 0}, {0, -1, 0}, {0, 3, 0}, {0, 0, -1}, {0, 0, 3},
            {Integer.MAX_VALUE, 0, 0}, {Integer.MIN_VALUE, 0, 0}};
        for (int[] b : bad) {
            Due.is("bad cut", x.cut(b[0], b[1], b[2]), BAD);
        }
    }

    private static void shim() {
        ThreeMasters x = Due.plan("1f=0");
        Due.is("shim(0, 99)", x.shim(0, 99), 0);
        Due.is("shim(0, -99)", x.shim(0, -99), 99);
        Due.is("BUILT", x.floor(0, 1), -87);
        Due.is("MEANT", x.floor(0, 0), 12);
        Due.is("shim(9, 1), not there", x.shim(9, 1), 0);
        Due.is("shim(9, 2)", x.shim(9, 2), 1);
        int[][] bad = {{-1, 0}, {10, 0}, {0, 100}, {0, -100}, {Integer.MIN_VALUE, 0}, {0, Integer.MIN_VALUE}};
        for (int[] b : bad) {
            Due.is("bad shim", x.shim(b[0], b[1]), ANY_BAD);
        }
        Due.is("SHIMMED behind bad ones", x.shim(0, 0), -99);
        x.shim(1, 4);
        Due.typed(x, ";1f=0");
        Due.is("a FLOOR that comes later is SHIMMED", x.floor(1, 1), 16);
    }

    private static void set() {
        ThreeMasters x = new ThreeMasters();
        int[] first = {0, 200, 2, 5};
        int[] least = {0, 1, 0, 0};
        int[] most = {99, 999, 9, 9};
        for (int what = 0; what < 4; what++) {
            Due.is("set(" + what + ", least)", x.set(what, least[what]), first[what]);
            Due.is("set(" + what + ", most)", x.set(what, most[what]), least[what]);
            Due.is("set(" + what + ", below)", x.set(what, least[what] - 1), BAD);
            Due.is("set(" + what + ", above)", x.set(what, most[what] + 1), BAD);
            Due.is("count(" + (what + 4) + ")", x.count(what + 4), most[what]);
        }
        Due.is("set(-1, 1)", x.set(-1, 1), BAD);
        Due.is("set(4, 1)", x.set(4, 1), BAD);
        Due.is("set(MIN, 1)", x.set(Integer.MIN_VALUE, 1), BAD);
        Due.is("set(MAX, 1)", x.set(Integer.MAX_VALUE, 1), BAD);
    }
}
