/** Promises 31 to 38: sheet, lose, put, get, copy, write, count, digest. */
public final class SheetsTest {
    private static final int BAD = ThreeMasters.BAD, LEAST = Integer.MIN_VALUE;
    private static final int NULL = -11, INDEX = -12, CAST = -13, STORE = -14, SIZE = -15;

    public static void main(String[] args) {
        sheet();
        lose();
        put();
        get();
        copy();
        copyRefuses();
        copyWithinOne();
        write();
        count();
        digests();
        Due.end();
    }

    private static void digests() {
        Due.says("h is 17; h becomes 31 h and each of (of each thing all that is told of it, then of the next one): count() 0 to 7; "
            + "fault(); of FLOORS floor() 0 to 5, sill() 0, 2, fits(), even(15, 20, 0 to 2), odds() of MEASURE 0, above, below, "
            + "bears() by MASTERS 0 to 2; of the top sill() 0, 2; worst(), of MASTERS blame() 0, 1, above and below each, safe(); "
            + "worlds(), lifts(), longest(150, 0 and 1), mended(1023, NONE), next(100, 0 and 1), more(), stones() 0, 1 (all as they "
            + "are told); as longs that wrap.");
        digest(new ThreeMasters());
        digest(Due.plan("9f+6=0;3e=4;x"));
        ThreeMasters x = Due.plan("9f+6=0;3e=4;12s+7=8;8f=5;2e+5=6");
        digest(x);
        x.found(1, 135);
        x.shim(2, -50);
        x.set(0, 4);
        x.lean(3, -70);
        x.weigh(4, 9);
        digest(x);
        x.found(0, 1);
        digest(x);
        digestAtTheEdges();
        digestOfTen();
        digestOfRefusals();
    }

    private static void sheet() {
        ThreeMasters x = new ThreeMasters();
        Due.is("sheet(0, 0, 48)", x.sheet(0, 0, 48), 48);
        Due.is("sheet(3, 2, 0)", x.sheet(3, 2, 0), 0);
        int[][] bad = {{-1, 0, 1}, {4, 0, 1}, {0, -1, 1}, {0, 3, 1}, {0, 0, 49}, {4, 0, -1}, {0, 3, -1},
            {0, 0, Integer.MAX_VALUE}};
        for (int[] b : bad) {
            Due.is("bad sheet", x.sheet(b[0], b[1], b[2]), BAD);
        }
        Due.is("no FINDING yet", x.count(8), 0);
        Due.is("sheet(0, 1, -1)", x.sheet(0, 1, -1), SIZE);
        Due.is("sheet(0, 1, MIN)", x.sheet(0, 1, LEAST), SIZE);
        Due.is("FINDING 5", x.count(8), 5);
        Due.is("put in the last of 48", x.put(0, 0, 47, 9), 1);
        Due.is("the last of 48", x.get(0, 0, 47), 9);
        Due.is("sheet(0, 0, 48) anew", x.sheet(0, 0, 48), 48);
        Due.is("items are 0 at first", x.get(0, 0, 47), 0);
        x.put(0, 0, 47, 9);
        x.sheet(0, 0, 3);
        Due.is("shorter", x.get(0, 0, 3), LEAST);
    }

    private static void lose() {
        ThreeMasters x = new ThreeMasters();
        x.sheet(2, 1, 7);
        Due.is("lose(2)", x.lose(2), 7);
        Due.is("lose(2) again", x.lose(2), NULL);
        Due.is("FINDING 1", x.count(8), 1);
        x.sheet(2, 1, 0);
        Due.is("lose(2) of none", x.lose(2), 0);
        Due.is("lose(-1)", x.lose(-1), BAD);
        Due.is("lose(4)", x.lose(4), BAD);
        Due.is("put when LOST", x.put(2, 1, 0, 0), NULL);
    }

    private static void put() {
        ThreeMasters x = new ThreeMasters();
        for (int form = 0; form < 3; form++) {
            x.sheet(form, form, 2);
        }
        int[] values = {127, 128, -128, -129, 255, 256, 32768, -32769, 65535, 65536, LEAST, Integer.MAX_VALUE};
        for (int v : values) {
            Due.is("put(0, 0, 1, v)", x.put(0, 0, 1, v), 1);
            Due.is("a byte of " + v, x.get(0, 0, 1), (byte) v);
            Due.is("put(1, 1, 1, v)", x.put(1, 1, 1, v), 1);
            Due.is("a short of " + v, x.get(1, 1, 1), (short) v);
            Due.is("put(2, 2, 1, v)", x.put(2, 2, 1, v), 1);
            Due.is("an int of " + v, x.get(2, 2, 1), v);
        }
        Due.is("put(-1, ..)", x.put(-1, 0, 0, 0), BAD);
        Due.is("put(4, ..)", x.put(4, 0, 0, 0), BAD);
        Due.is("put(3, 3, ..), BAD ahead of NULL", x.put(3, 3, 0, 0), BAD);
        Due.is("put(3, -1, ..)", x.put(3, -1, 0, 0), BAD);
        Due.is("no FINDING yet", x.count(8), 0);
        Due.is("put(0, 1, 9, 0), CAST ahead of INDEX", x.put(0, 1, 9, 0), CAST);
        Due.is("FINDING 3", x.count(8), 3);
        Due.is("put(3, 1, 9, 0), NULL ahead of all", x.put(3, 1, 9, 0), NULL);
        Due.is("FINDING 1", x.count(8), 1);
        Due.is("put(0, 0, 2, 0)", x.put(0, 0, 2, 0), INDEX);
        Due.is("FINDING 2", x.count(8), 2);
        Due.is("put(0, 0, -1, 0)", x.put(0, 0, -1, 0), INDEX);
        Due.is("put(0, 0, MIN, 0)", x.put(0, 0, LEAST, 0), INDEX);
        Due.is("the other item stays", x.get(0, 0, 0), 0);
        Due.is("a FINDING stays", x.count(8), 2);
    }

    private static void get() {
        ThreeMasters x = new ThreeMasters();
        x.sheet(1, 1, 2);
        x.put(1, 1, 0, -5);
        Due.is("get(1, 1, 0)", x.get(1, 1, 0), -5);
        int[][] bad = {{-1, 0, 0}, {4, 0, 0}, {0, 3, 0}, {0, -1, 0}};
        for (int[] b : bad) {
            Due.is("bad get", x.get(b[0], b[1], b[2]), LEAST);
            Due.is("no FINDING by BAD", x.count(8), 0);
        }
        Due.is("get(0, 1, 0), LOST", x.get(0, 1, 0), LEAST);
        Due.is("FINDING 1", x.count(8), 1);
        Due.is("get(1, 2, 7)", x.get(1, 2, 7), LEAST);
        Due.is("FINDING 3", x.count(8), 3);
        Due.is("get(1, 1, 2)", x.get(1, 1, 2), LEAST);
        Due.is("FINDING 2", x.count(8), 2);
        Due.is("get(1, 0, 0)", x.get(1, 0, 0), LEAST);
        Due.is("FINDING 3 again", x.count(8), 3);
        Due.is("get(1, 1, -1)", x.get(1, 1, -1), LEAST);
        Due.is("FINDING 2 again", x.count(8), 2);
    }

    private static ThreeMasters numbered(int s, int n) {
        ThreeMasters x = new ThreeMasters();
        x.sheet(s, 2, n);
        for (int i = 0; i < n; i++) {
            x.put(s, 2, i, 10 + i);
        }
        return x;
    }

    private static void copy() {
        ThreeMasters x = numbered(0, 5);
        x.sheet(1, 2, 4);
        Due.is("copy(0, 3, 1, 1, 2)", x.copy(0, 3, 1, 1, 2), 1);
        int[] want = {0, 13, 14, 0};
        for (int i = 0; i < 4; i++) {
            Due.is("copied " + i, x.get(1, 2, i), want[i]);
        }
        Due.is("copy, none at the ends", x.copy(0, 5, 1, 4, 0), 1);
        Due.is("copy, whole", x.copy(1, 0, 0, 1, 4), 1);
        Due.is("copied whole, first", x.get(0, 2, 1), 0);
        Due.is("copied whole, last", x.get(0, 2, 4), 0);
        Due.is("no FINDING", x.count(8), 0);
    }

    private static void copyRefuses() {
        ThreeMasters x = numbered(0, 5);
        x.sheet(1, 2, 4);
        x.sheet(2, 1, 4);
        int most = Integer.MAX_VALUE;
        int[][] index = {{-1, 0, 1}, {0, -1, 1}, {0, 0, -1}, {5, 0, 1}, {0, 4, 1}, {0, 0, 5}, {1, 0, 5}, {6, 0, 0},
            {0, 5, 0}, {most, 0, most}, {1, 0, most}, {0, 1, most}, {LEAST, 0, 1}, {0, LEAST, 1}, {0, 0, LEAST}};
        Due.is("copy(-1, ..)", x.copy(-1, 0, 1, 0, 1), BAD);
        Due.is("copy(.., 4, ..)", x.copy(3, 0, 4, 0, 1), BAD);
        Due.is("copy(4, ..)", x.copy(4, 0, 1, 0, 1), BAD);
        Due.is("copy(.., -1, ..)", x.copy(0, 0, -1, 0, 1), BAD);
        Due.is("no FINDING yet", x.count(8), 0);
        for (int[] b : index) {
            Due.is("copy, INDEX", x.copy(0, b[0], 1, b[1], b[2]), INDEX);
        }
        Due.is("FINDING 2", x.count(8), 2);
        Due.is("copy, LOST s ahead of INDEX", x.copy(3, -1, 1, 0, 1), NULL);
        Due.is("FINDING 1", x.count(8), 1);
        Due.is("copy, STORE ahead of INDEX", x.copy(0, -1, 2, 0, 1), STORE);
        Due.is("FINDING 4", x.count(8), 4);
        Due.is("copy, LOST t", x.copy(2, 0, 3, 0, 1), NULL);
        Due.is("copy, both LOST", new ThreeMasters().copy(3, 0, 3, 0, 0), NULL);
        Due.is("nothing was copied", x.get(1, 2, 0), 0);
    }

    private static void copyWithinOne() {
        int[][] moves = {{0, 2, 4}, {2, 0, 4}, {1, 1, 3}};
        int[][] want = {{10, 11, 10, 11, 12, 13}, {12, 13, 14, 15, 14, 15}, {10, 11, 12, 13, 14, 15}};
        for (int m = 0; m < moves.length; m++) {
            ThreeMasters x = numbered(3, 6);
            Due.is("copy within one", x.copy(3, moves[m][0], 3, moves[m][1], moves[m][2]), 1);
            for (int i = 0; i < 6; i++) {
                Due.is("move " + m + ", item " + i, x.get(3, 2, i), want[m][i]);
            }
        }
    }

    private static void write() {
        ThreeMasters x = Due.plan("99e=3;1f=0;20f=0");
        x.shim(1, -20);
        Due.is("write(0), LOST", x.write(0), NULL);
        Due.is("FINDING 1", x.count(8), 1);
        Due.is("write(-1)", x.write(-1), BAD);
        Due.is("write(4)", x.write(4), BAD);
        for (int form = 0; form < 3; form++) {
            x.sheet(form, form, 5);
            x.put(form, form, 3, 77);
            Due.is("write(" + form + ")", x.write(form), 3);
            Due.is("written, item 0", x.get(form, form, 0), form == 0 ? (byte) 4455 : 4455);
            Due.is("written, item 1", x.get(form, form, 1), -8);
            Due.is("written, item 2", x.get(form, form, 2), form == 0 ? (byte) 240 : 240);
            Due.is("behind what is written", x.get(form, form, 3), 77);
        }
        x.sheet(0, 2, 2);
        Due.is("write(), fewer items", x.write(0), 2);
        x.sheet(0, 2, 0);
        Due.is("write(), no items", x.write(0), 0);
        x.wipe();
        Due.is("write(), no FLOORS", x.write(1), 0);
        ThreeMasters high = Due.plan("99f=0");
        high.measure(0, 0, 999);
        high.sheet(0, 1, 1);
        high.write(0);
        Due.is("a short of 98901", high.get(0, 1, 0), (short) 98901);
    }

    private static void count() {
        ThreeMasters x = Due.plan("9f+6=0;3e=4");
        x.found(9, 4);
        x.set(0, 7);
        x.set(1, 8);
        x.set(2, 9);
        x.set(3, 6);
        x.lose(0);
        int[] want = {2, 11, 114 + 135, 1, 7, 8, 9, 6, 1};
        for (int what = 0; what < want.length; what++) {
            Due.is("count(" + what + ")", x.count(what), want[what]);
        }
        int[] bad = {-1, 9, LEAST, Integer.MAX_VALUE};
        for (int what : bad) {
            Due.is("count(" + what + ")", x.count(what), BAD);
        }
        x.type(';');
        Due.is("bytes with a FAULT", x.count(1), 12);
    }

    /** The sum that the document tells, call by call. */
    private static void digest(ThreeMasters x) {
        StringBuilder told = new StringBuilder();
        for (int what = 0; what <= 7; what++) {
            tell(told, x.count(what));
        }
        tell(told, x.fault());
        int top = x.count(0);
        for (int f = 0; f < top; f++) {
            tell(told, x.floor(f, 0), x.floor(f, 1), x.floor(f, 2), x.floor(f, 3), x.floor(f, 4), x.floor(f, 5));
            tell(told, x.sill(f, 0), x.sill(f, 2), x.fits(f));
            tell(told, x.even(f, 15, 20, 0), x.even(f, 15, 20, 1), x.even(f, 15, 20, 2));
            tell(told, x.odds(f, 0, 0), x.odds(f, 0, 1), x.bears(f, 0), x.bears(f, 1), x.bears(f, 2));
        }
        tell(told, x.sill(top, 0), x.sill(top, 2), x.worst());
        for (int k = 0; k < 3; k++) {
            tell(told, x.blame(k, 0, 0), x.blame(k, 0, 1), x.blame(k, 1, 0), x.blame(k, 1, 1), x.safe(k));
        }
        tell(told, x.worlds(), x.lifts(), x.longest(150, 0), x.longest(150, 1), x.mended(1023, -1));
        tell(told, x.next(100, 0), x.next(100, 1), x.more(), x.stones(0), x.stones(1));
        long h = 17;
        for (String number : told.toString().trim().split(" ")) {
            h = 31 * h + Long.parseLong(number);
        }
        Due.is("digest()", x.digest(), h);
        Due.is("digest() again", x.digest(), h);
    }

    /** Towers for which a number beside the one that the document gives to a call would answer otherwise. */
    private static void digestAtTheEdges() {
        ThreeMasters x = Due.plan("14f=0;15f=0;20f=0;21f=0");
        x.measure(0, 0, 1);
        x.shim(0, 5);
        x.shim(1, -5);
        digest(x);
        x.shim(0, 0);
        x.shim(1, 0);
        x.lean(1, 50);
        digest(x);
        x.lean(1, 51);
        digest(x);
        for (int k = 0; k < 3; k++) {
            x.measure(k, 0, 99 + k);
        }
        digest(x);
    }

    private static void digestOfTen() {
        ThreeMasters x = Due.plan("9f+6=0;3e=4;12s+7=8;8f=5;2e+5=6;9f=1;8f=3;7s=2;6e=7;5f=8");
        x.shim(9, -77);
        x.lean(10, 99);
        x.weigh(9, 99);
        x.found(9, 54);
        digest(x);
    }

    /** No BLAME, no WORLDS, nothing to be mended, no lift, not SAFE: refusals and NONE are mixed in as they are told. */
    private static void digestOfRefusals() {
        ThreeMasters x = Due.plan("9f=0;8f=0;1f=0");
        x.found(1, 1);
        x.shim(0, 99);
        x.shim(1, 99);
        x.lean(2, 99);
        x.set(1, 90);
        x.weigh(2, 99);
        Due.is("blame() is refused", x.blame(0, 1, 0), Due.refusal(ThreeMasters.NOT));
        Due.is("odds() is refused", x.odds(0, 0, 0), Due.refusal(ThreeMasters.NOT));
        digest(x);
        x.measure(1, 0, 999);
        Due.typed(x, ";1f=4");
        Due.is("mended() is NONE", x.mended(1023, -1), ThreeMasters.NONE);
        digest(x);
    }

    private static void tell(StringBuilder told, long... numbers) {
        for (long number : numbers) {
            told.append(number).append(' ');
        }
    }
}
