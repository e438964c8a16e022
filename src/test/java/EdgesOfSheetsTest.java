/** Terms, part 1: sheets and findings; promises 1 and 31 to 38 at their edges. */
public final class EdgesOfSheetsTest {
    private static final int NONE = ThreeMasters.NONE, BAD = ThreeMasters.BAD, LEAST = Integer.MIN_VALUE, MOST = Integer.MAX_VALUE;
    private static final int NULL = -11, INDEX = -12, CAST = -13, STORE = -14, SIZE = -15;

    public static void main(String[] args) {
        newObject();
        sheets();
        forms();
        sizes();
        itemsAtFirst();
        lose();
        putBytes();
        putShorts();
        putInts();
        putOneAlone();
        get();
        copy();
        copyAsTheyWere();
        copyOfNone();
        write();
        writeLowestBits();
        count();
        latestFinding();
        Due.end();
    }

    private static void newObject() {
        Due.says("An empty PLAN; nothing FOUND; all SHEETS are LOST.");
        ThreeMasters x = new ThreeMasters();
        int[] counts = {0, 0, 0, 0, 0, 200, 2, 5, 0};
        for (int what = 0; what < 9; what++) {
            Due.is("count(" + what + ")", x.count(what), counts[what]);
        }
        Due.is("fault()", x.fault(), NONE);
        Due.is("wipe()", x.wipe(), 0);
        for (int f = 0; f < 10; f++) {
            Due.is("found(" + f + ", NONE)", x.found(f, NONE), NONE);
        }
        for (int s = 0; s < 4; s++) {
            Due.is("lose(" + s + ")", x.lose(s), NULL);
        }
        Scene.alike("two new ones", Scene.seen(new ThreeMasters()), Scene.seen(new ThreeMasters()));
    }

    private static void sheets() {
        Due.says("SHEETS 0 .. 3 are LOST (at first) or a row of a FORM:");
        Due.says("A SHEET is a new row of a FORM with n items: n. BAD: SHEET, FORM, above 48; SIZE.");
        ThreeMasters x = new ThreeMasters();
        for (int s = -1; s <= 4; s++) {
            boolean may = s >= 0 && s <= 3;
            Due.is("write(" + s + ") at first", x.write(s), may ? NULL : BAD);
            Due.is("sheet(" + s + ", 2, 3)", x.sheet(s, 2, 3), may ? 3 : BAD);
            Due.is("write(" + s + ")", x.write(s), may ? 0 : BAD);
        }
    }

    private static void forms() {
        Due.says("0 bytes, 1 shorts, 2 ints,");
        int[] due = {BAD, 1, 1, 1, BAD};
        int[] kept = {0, (byte) 0x12345678, (short) 0x12345678, 0x12345678, 0};
        for (int form = -1; form <= 3; form++) {
            ThreeMasters x = new ThreeMasters();
            Due.is("sheet(0, " + form + ", 1)", x.sheet(0, form, 1), due[form + 1]);
            Due.is("put(0, " + form + ", 0, ..)", x.put(0, form, 0, 0x12345678), due[form + 1]);
            Due.is("get(0, " + form + ", 0)", x.get(0, form, 0), due[form + 1] == BAD ? LEAST : kept[form + 1]);
        }
    }

    private static void sizes() {
        Due.says("of 0 to 48 items");
        int[] sizes = {LEAST, -2, -1, 0, 1, 47, 48, 49, MOST};
        int[] due = {SIZE, SIZE, SIZE, 0, 1, 47, 48, BAD, BAD};
        for (int form = 0; form < 3; form++) {
            for (int i = 0; i < sizes.length; i++) {
                ThreeMasters x = new ThreeMasters();
                Due.is("sheet(3, " + form + ", " + sizes[i] + ")", x.sheet(3, form, sizes[i]), due[i]);
                Due.is("count(8)", x.count(8), due[i] == SIZE ? 5 : 0);
                Due.is("lose(3)", x.lose(3), due[i] >= 0 ? due[i] : NULL);
            }
            ThreeMasters x = new ThreeMasters();
            x.sheet(1, form, 48);
            Due.is("item 47", x.put(1, form, 47, 5), 1);
            Due.is("item 48", x.put(1, form, 48, 5), INDEX);
            x.sheet(1, form, 0);
            Due.is("item 0 of none", x.put(1, form, 0, 5), INDEX);
            Due.is("get() of none", x.get(1, form, 0), LEAST);
        }
    }

    private static void itemsAtFirst() {
        Due.says("(0 at first).");
        ThreeMasters x = new ThreeMasters();
        x.sheet(2, 0, 48);
        for (int i = 0; i < 48; i++) {
            Due.is("item " + i, x.get(2, 0, i), 0);
            x.put(2, 0, i, 9);
        }
        Due.is("a new row", x.sheet(2, 2, 48), 48);
        for (int i = 0; i < 48; i++) {
            Due.is("item " + i + " anew", x.get(2, 2, i), 0);
            x.put(2, 2, i, 9);
        }
        x.sheet(2, 2, 2);
        x.sheet(2, 2, 3);
        Due.is("a longer row behind a shorter one", x.get(2, 2, 2), 0);
        x.put(2, 2, 2, 9);
        x.lose(2);
        x.sheet(2, 2, 3);
        Due.is("a row behind lose()", x.get(2, 2, 2), 0);
        x.put(2, 2, 0, 7);
        Due.is("sheet() that is refused: BAD", x.sheet(2, 2, 49), BAD);
        Due.is("sheet() that is refused: SIZE", x.sheet(2, 2, -1), SIZE);
        Due.is("the row stays", x.get(2, 2, 0), 7);
    }

    private static void lose() {
        Due.says("It is LOST: how many items it had. BAD; NULL.");
        int[] sizes = {0, 1, 48};
        for (int size : sizes) {
            ThreeMasters x = new ThreeMasters();
            x.sheet(3, 1, size);
            x.sheet(2, 1, 5);
            Due.is("lose(3)", x.lose(3), size);
            Due.is("lose(3), LOST", x.lose(3), NULL);
            Due.is("put(3, ..), LOST", x.put(3, 1, 0, 1), NULL);
            Due.is("get(3, ..), LOST", x.get(3, 1, 0), LEAST);
            Due.is("copy(3, ..), LOST", x.copy(3, 0, 2, 0, 0), NULL);
            Due.is("copy(.., 3, ..), LOST", x.copy(2, 0, 3, 0, 0), NULL);
            Due.is("read(3), LOST", x.read(3), NULL);
            Due.is("write(3), LOST", x.write(3), NULL);
            Due.is("the other stays", x.lose(2), 5);
        }
        Due.is("lose(-1)", new ThreeMasters().lose(-1), BAD);
        Due.is("lose(4)", new ThreeMasters().lose(4), BAD);
    }

    private static void puts(int form, int... pairs) {
        ThreeMasters x = new ThreeMasters();
        x.sheet(1, form, 2);
        for (int i = 0; i < pairs.length; i += 2) {
            Due.is("put(1, " + form + ", 1, " + pairs[i] + ")", x.put(1, form, 1, pairs[i]), 1);
            Due.is("get() of " + pairs[i], x.get(1, form, 1), pairs[i + 1]);
        }
    }

    private static void putBytes() {
        Due.says("Item i, treated as of a FORM, becomes v (the lowest bits that it has, with its sign; by write(), too): 1. "
            + "BAD; NULL; CAST; INDEX.");
        puts(0, 0, 0, 1, 1, -1, -1, 126, 126, 127, 127, 128, -128, 129, -127, 255, -1, 256, 0, 257, 1, -127, -127, -128, -128, -129,
            127, -256, 0, -257, -1, 32768, 0, MOST, -1, LEAST, 0);
    }

    private static void putShorts() {
        puts(1, 0, 0, -1, -1, 128, 128, -129, -129, 32766, 32766, 32767, 32767, 32768, -32768, 32769, -32767, 65535, -1, 65536, 0,
            65537, 1, -32767, -32767, -32768, -32768, -32769, 32767, -65536, 0, -65537, -1, MOST, -1, LEAST, 0);
    }

    private static void putInts() {
        puts(2, 0, 0, -1, -1, 32768, 32768, -32769, -32769, 65536, 65536, MOST, MOST, MOST - 1, MOST - 1, LEAST, LEAST, LEAST + 1,
            LEAST + 1);
    }

    private static void putOneAlone() {
        ThreeMasters x = new ThreeMasters();
        x.sheet(0, 1, 3);
        x.sheet(1, 1, 3);
        x.put(0, 1, 1, 5);
        int[] want = {0, 5, 0};
        for (int i = 0; i < 3; i++) {
            Due.is("item " + i, x.get(0, 1, i), want[i]);
            Due.is("item " + i + " of another", x.get(1, 1, i), 0);
        }
    }

    private static void get() {
        Due.says("Item i of it. BAD: the least int; so are NULL, CAST, INDEX (count() 8 tells).");
        ThreeMasters x = new ThreeMasters();
        x.sheet(1, 1, 2);
        x.put(1, 1, 0, 6);
        x.put(1, 1, 1, 7);
        int[][] want = {{-1, 1, 0, LEAST, 0}, {4, 1, 0, LEAST, 0}, {1, -1, 0, LEAST, 0}, {1, 3, 0, LEAST, 0}, {0, 1, 0, LEAST, 1},
            {1, 0, 0, LEAST, 3}, {1, 1, -1, LEAST, 2}, {1, 2, 0, LEAST, 3}, {1, 1, 2, LEAST, 2}, {1, 1, 0, 6, 2}, {1, 1, 1, 7, 2}};
        for (int[] w : want) {
            Due.is("get(" + w[0] + ", " + w[1] + ", " + w[2] + ")", x.get(w[0], w[1], w[2]), w[3]);
            Due.is("count(8)", x.count(8), w[4]);
        }
        x.sheet(1, 2, 1);
        x.put(1, 2, 0, LEAST);
        Due.is("an item that is the least int", x.get(1, 2, 0), LEAST);
        Due.is("count(8) stays", x.count(8), 2);
    }

    private static ThreeMasters rows() {
        ThreeMasters x = new ThreeMasters();
        for (int s = 0; s < 2; s++) {
            x.sheet(s, 1, 4);
            for (int i = 0; i < 4; i++) {
                x.put(s, 1, i, 10 * s + i);
            }
        }
        return x;
    }

    private static void copies(int s, int i, int t, int j, int n, int... want) {
        ThreeMasters x = rows();
        Due.is("copy(" + s + ", " + i + ", " + t + ", " + j + ", " + n + ")", x.copy(s, i, t, j, n), 1);
        for (int k = 0; k < 8; k++) {
            Due.is("item " + k % 4 + " of " + k / 4, x.get(k / 4, 1, k % 4), want[k]);
        }
    }

    private static void copy() {
        Due.says("n items of SHEET s, from i on, come to SHEET t (perhaps s, as they were), from j on: 1.");
        copies(0, 0, 1, 0, 4, 0, 1, 2, 3, 0, 1, 2, 3);
        copies(0, 3, 1, 0, 1, 0, 1, 2, 3, 3, 11, 12, 13);
        copies(0, 0, 1, 3, 1, 0, 1, 2, 3, 10, 11, 12, 0);
        copies(1, 1, 0, 2, 2, 0, 1, 11, 12, 10, 11, 12, 13);
    }

    private static void copyAsTheyWere() {
        copies(0, 0, 0, 1, 3, 0, 0, 1, 2, 10, 11, 12, 13);
        copies(0, 1, 0, 0, 3, 1, 2, 3, 3, 10, 11, 12, 13);
        copies(0, 0, 0, 0, 4, 0, 1, 2, 3, 10, 11, 12, 13);
        copies(1, 0, 1, 2, 2, 0, 1, 2, 3, 10, 11, 10, 11);
        copies(1, 2, 1, 1, 2, 0, 1, 2, 3, 10, 12, 13, 13);
    }

    private static void copyOfNone() {
        Due.says("BAD: the SHEETS; NULL: s, t; STORE; INDEX: i, j or n below 0, not so many there (of n 0, too: i or j above the "
            + "size).");
        copies(0, 0, 1, 0, 0, 0, 1, 2, 3, 10, 11, 12, 13);
        copies(0, 4, 1, 4, 0, 0, 1, 2, 3, 10, 11, 12, 13);
        int[][] index = {{5, 0, 0}, {0, 5, 0}, {-1, 0, 0}, {0, -1, 0}, {0, 0, -1}, {4, 0, 1}, {0, 4, 1}, {3, 0, 2}, {0, 3, 2},
            {0, 0, 5}, {MOST, 0, 0}, {0, MOST, 0}, {0, 0, MOST}, {1, 0, MOST}, {LEAST, 0, 0}, {0, 0, LEAST}};
        for (int[] b : index) {
            ThreeMasters x = rows();
            Due.is("copy(0, " + b[0] + ", 1, " + b[1] + ", " + b[2] + ")", x.copy(0, b[0], 1, b[1], b[2]), INDEX);
            Due.is("count(8)", x.count(8), 2);
            Due.is("item 0 stays", x.get(1, 1, 0), 10);
            Due.is("item 3 stays", x.get(1, 1, 3), 13);
        }
        ThreeMasters x = rows();
        x.sheet(2, 1, 0);
        x.sheet(3, 2, 4);
        Due.is("none of none", x.copy(2, 0, 2, 0, 0), 1);
        Due.is("one of none", x.copy(2, 0, 0, 0, 1), INDEX);
        Due.is("one to none", x.copy(0, 0, 2, 0, 1), INDEX);
        Due.is("none, unlike FORMS", x.copy(0, 0, 3, 0, 0), STORE);
    }

    private static void writes(int items, int floors, int want) {
        ThreeMasters x = Due.plan("2f=0;3f=0;4f=0".substring(0, Math.max(0, 5 * floors - 1)));
        x.shim(1, -40);
        x.sheet(3, 2, items);
        for (int i = 0; i < items; i++) {
            x.put(3, 2, i, 77);
        }
        Due.is("write() of " + floors + " FLOORS to " + items + " items", x.write(3), want);
        int[] built = {24, -4, 48};
        for (int i = 0; i < items; i++) {
            Due.is("item " + i, x.get(3, 2, i), i < want ? built[i] : 77);
        }
    }

    private static void write() {
        Due.says("BUILT of FLOORS 0 on come to a SHEET from item 0 on, as many as there are items and FLOORS: how many. BAD; NULL.");
        int[][] want = {{0, 0, 0}, {0, 1, 0}, {1, 0, 0}, {1, 1, 1}, {1, 2, 1}, {2, 1, 1}, {2, 3, 2}, {3, 3, 3}, {4, 3, 3}, {48, 3, 3}};
        for (int[] w : want) {
            writes(w[0], w[1], w[2]);
        }
        ThreeMasters ten = Due.plan("1f=0;1f=0;1f=0;1f=0;1f=0;1f=0;1f=0;1f=0;1f=0;2f=0");
        int[] sizes = {9, 10, 11, 48};
        int[] due = {9, 10, 10, 10};
        for (int i = 0; i < sizes.length; i++) {
            ten.sheet(0, 0, sizes[i]);
            Due.is("write() of ten FLOORS", ten.write(0), due[i]);
        }
        Due.is("item 9", ten.get(0, 0, 9), 24);
        Due.is("item 10", ten.get(0, 0, 10), 0);
        Due.is("write(-1)", ten.write(-1), BAD);
        Due.is("write(4)", ten.write(4), BAD);
        Due.is("write(1), LOST", ten.write(1), NULL);
    }

    private static void writeLowestBits() {
        ThreeMasters x = Due.plan("99f=0");
        int[][] want = {{1, 28, 127, 127, 127}, {1, 29, -128, 128, 128}, {1, -99, 0, 0, 0}, {331, -2, 255 - 256, 32767, 32767},
            {331, -1, 0, -32768, 32768}, {999, 0, 85, 98901 - 131072, 98901}};
        for (int[] w : want) {
            x.measure(0, 0, w[0]);
            x.shim(0, w[1]);
            for (int form = 0; form < 3; form++) {
                x.sheet(form, form, 1);
                Due.is("write(" + form + ")", x.write(form), 1);
                Due.is("BUILT " + x.floor(0, 1) + " by FORM " + form, x.get(form, form, 0), w[2 + form]);
            }
        }
    }

    private static void count() {
        Due.says("0 FLOORS, 1 bytes of THE PLAN, 2 all MEANT together, 3 of FLOORS 0 to 9 those that were FOUND, 4 SLACK, 5 ROOM, "
            + "6 SHIM, 7 CUT, 8 the number of the latest FINDING (0 before any). BAD.");
        ThreeMasters x = Due.plan("2f=0;3f=3");
        x.shim(0, 9);
        for (int f = 9; f >= 0; f--) {
            Due.is("count(3)", x.count(3), 9 - f);
            x.found(f, 1);
        }
        for (int what = 0; what < 4; what++) {
            x.set(what, 6 + what);
        }
        int[] want = {BAD, 2, 9, 60, 10, 6, 7, 8, 9, 0, BAD};
        for (int what = -1; what <= 9; what++) {
            Due.is("count(" + what + ")", x.count(what), want[what + 1]);
        }
        Due.is("count(MIN)", x.count(LEAST), BAD);
        Due.is("count(MAX)", x.count(MOST), BAD);
    }

    private static void latestFinding() {
        ThreeMasters x = new ThreeMasters();
        Due.is("before any", x.count(8), 0);
        x.sheet(0, 0, 1);
        x.sheet(1, 1, 1);
        int[] calls = {x.lose(2), x.count(8), x.put(0, 0, 1, 0), x.count(8), x.put(0, 1, 0, 0), x.count(8),
            x.copy(0, 0, 1, 0, 1), x.count(8), x.sheet(0, 0, -1), x.count(8), x.read(3), x.count(8)};
        int[] want = {NULL, 1, INDEX, 2, CAST, 3, STORE, 4, SIZE, 5, NULL, 1};
        for (int i = 0; i < calls.length; i++) {
            Due.is("answer " + i, calls[i], want[i]);
        }
        x.put(0, 0, 0, 3);
        x.put(4, 0, 0, 3);
        x.type(-1);
        x.wipe();
        Due.is("what is no FINDING leaves it", x.count(8), 1);
    }
}
