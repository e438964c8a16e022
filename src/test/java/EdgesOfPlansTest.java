/** Terms, part 1: the plan, its fault and its floors; promises 3 to 6 and 8 at their edges. */
public final class EdgesOfPlansTest {
    private static final int NONE = ThreeMasters.NONE, BAD = ThreeMasters.BAD, ANY_BAD = -100002;
    private static final String NINE = "1f=0;1f=1;1f=2;1f=3;1f=4;1f=5;1f=6;1f=7;1f=8";
    private static final String EIGHTY = "99f+1=0;".repeat(9) + "99f+11=0";

    public static void main(String[] args) {
        eightyBytes();
        bytes();
        anyByteAtAnyPlace();
        tenFloors();
        signsBetween();
        numbers();
        letters();
        twelfths();
        ways();
        placeOfTheFault();
        numberThatMayNotBe();
        eleventh();
        faultComesAndGoes();
        asIfItWasEmpty();
        wipe();
        meant();
        built();
        sills();
        shims();
        floor();
        Due.end();
    }

    private static void faultOf(String text, int want) {
        Due.is("fault() of '" + text + "'", Due.plan(text).fault(), want);
    }

    private static void well(String text, int floors) {
        faultOf(text, NONE);
        Due.is("FLOORS of '" + text + "'", Due.plan(text).count(0), floors);
    }

    private static void eightyBytes() {
        Due.says("THE PLAN is a text of up to 80 bytes:");
        ThreeMasters x = new ThreeMasters();
        for (int i = 0; i < 80; i++) {
            Due.is("byte " + i, x.type(EIGHTY.charAt(i)), i + 1);
            Due.is("bytes", x.count(1), i + 1);
        }
        Due.is("the 81st", x.type(';'), ThreeMasters.FULL);
        Due.is("once more", x.type('0'), ThreeMasters.FULL);
        Due.is("bytes when full", x.count(1), 80);
        Due.is("well when full", x.fault(), NONE);
        Due.is("FLOORS when full", x.count(0), 10);
        Due.is("the last one's MEANT", x.floor(9, 0), 12 * 99 + 11);
        faultOf(EIGHTY.substring(0, 79), 79);
        faultOf(EIGHTY.substring(0, 79) + "9", 79);
    }

    private static void bytes() {
        Due.says("A byte (0 to 255) comes behind THE PLAN: how many. BAD; FULL.");
        ThreeMasters x = new ThreeMasters();
        int[] bytes = {-1, 0, 1, 254, 255, 256};
        int[] due = {BAD, 1, 2, 3, 4, BAD};
        for (int i = 0; i < bytes.length; i++) {
            Due.is("type(" + bytes[i] + ")", x.type(bytes[i]), due[i]);
        }
        Due.is("bytes behind", x.count(1), 4);
        // No byte is another one's like by its lowest bits.
        ThreeMasters y = new ThreeMasters();
        Due.is("type('9' + 256)", y.type('9' + 256), BAD);
        Due.is("type('9' - 256)", y.type('9' - 256), BAD);
        Due.is("type('9' + 128)", y.type('9' + 128), 1);
        Due.is("fault()", y.fault(), 0);
    }

    /** Behind a beginning that is well so far, the bytes that it can go on with, and with which of these it is ended. */
    private static void behind(String text, String goesOn, String ends, String mayNotBe, int numberAt) {
        for (int b = 0; b < 256; b++) {
            int want = goesOn.indexOf(b) >= 0 ? text.length() + 1 : text.length();
            want = ends.indexOf(b) >= 0 ? NONE : mayNotBe.indexOf(b) >= 0 ? numberAt : want;
            faultOf(text + (char) b, want);
        }
    }

    private static void anyByteAtAnyPlace() {
        String figures = "0123456789";
        behind("", "123456789", "", "0", 0);
        behind("9", figures + "fes", "", "", 0);
        behind("99", "fes", "", "", 0);
        behind("10", "fes", "", "", 0);
        behind("9f", "+=", "", "", 0);
        behind("9e", "+=", "", "", 0);
        behind("99s", "+=", "", "", 0);
        behind("9f+", "123456789", "", "0", 3);
        behind("9f+1", "01=", "", "23456789", 3);
        behind("9f+2", "=", "", figures, 3);
        behind("9f+9", "=", "", figures, 3);
        behind("9f+11", "=", "", "", 3);
        behind("9f+10", "=", "", "", 3);
        behind("9f=", "", "012345678", "", 0);
        behind("9f+1=", "", "012345678", "", 0);
        behind("9f=0", ";", "", "", 0);
        behind("9f=0;", "123456789", "", "0", 5);
        behind("9f=0;1", figures + "fes", "", "", 0);
        behind(NINE + ";1f=", "", "012345678", "", 0);
        behind(NINE + ";1f=0", ";", "", "", 0);
        behind(NINE + ";1f=0;", "", "", "", 0);
    }

    private static void tenFloors() {
        Due.says("FLOORS from below, 10 at most (0 on), with ; between them:");
        well(NINE, 9);
        well(NINE + ";1f=0", 10);
        faultOf(NINE + ";1f=0;", 50);
        faultOf(NINE + ";1f=0;1f=0", 50);
        Due.is("FLOORS of eleven", Due.plan(NINE + ";1f=0;1f=0").count(0), 0);
        ThreeMasters ten = Due.plan(NINE + ";2f=0");
        Due.is("FLOOR 0 is the first that is told", ten.floor(0, 0), 12);
        Due.is("FLOOR 9 is the last", ten.floor(9, 0), 24);
        Due.is("FLOOR 10 is not there", ten.floor(10, 0), ANY_BAD);
        Due.is("FLOOR 8 of nine", Due.plan(NINE).floor(8, 2), 2);
        Due.is("FLOOR 9 of nine", Due.plan(NINE).floor(9, 0), ANY_BAD);
    }

    private static void signsBetween() {
        well("1f=0", 1);
        well("1f=0;1f=0", 2);
        faultOf(";", 0);
        faultOf(";1f=0", 0);
        faultOf("1f=0;", 5);
        faultOf("1f=0;;1f=0", 5);
        faultOf("1f=01f=0", 4);
        faultOf("1f=0 ;1f=0", 4);
        faultOf("1f=0; 1f=0", 5);
        faultOf("1f=0:1f=0", 4);
        faultOf("1f;=0", 2);
    }

    private static void numbers() {
        Due.says("a number (one or two figures, 1 to 99)");
        String[] may = {"1", "2", "9", "01", "09", "10", "11", "98", "99"};
        for (String number : may) {
            well(number + "f=0", 1);
            Due.is("MEANT of " + number, Due.plan(number + "f=0").floor(0, 0), 12 * Integer.parseInt(number));
        }
        String[] mayNot = {"", "0", "00", "-1", "+1", " 1", "a"};
        for (String number : mayNot) {
            faultOf(number + "f=0", 0);
        }
        faultOf("100f=0", 2);
        faultOf("099f=0", 2);
        faultOf("001f=0", 0);
        faultOf("999f=0", 2);
    }

    private static void letters() {
        Due.says("and the letter of a MEASURE (f, e, s for 0, 1, 2),");
        int[] sizes = {12, 45, 9};
        for (int k = 0; k < 3; k++) {
            Due.is("MEANT by letter " + k, Due.plan("2" + "fes".charAt(k) + "=0").floor(0, 0), 2 * sizes[k]);
        }
        for (char letter : "dgrtFES+=;".toCharArray()) {
            faultOf("2" + letter + "=0", 1);
        }
        faultOf("2=0", 1);
        faultOf("2ff=0", 2);
    }

    private static void twelfths() {
        Due.says("perhaps + and a number of twelfths (one or two figures, 1 to 11) of it: how high a FLOOR should be;");
        String[] may = {"1", "2", "9", "01", "09", "10", "11"};
        for (String number : may) {
            well("1f+" + number + "=0", 1);
            Due.is("MEANT with " + number, Due.plan("1f+" + number + "=0").floor(0, 0), 12 + Integer.parseInt(number));
        }
        String[] mayNot = {"", "0", "00", "12", "13", "20", "99", "+1", "f"};
        for (String number : mayNot) {
            faultOf("1f+" + number + "=0", 3);
        }
        faultOf("1f+011=0", 5);
        faultOf("1f+111=0", 5);
        faultOf("1f+120=0", 3);
        faultOf("1f+1f=0", 4);
        faultOf("1f+1+1=0", 4);
        well("1f=0", 1);
        Due.is("MEANT without", Due.plan("1f=0").floor(0, 0), 12);
    }

    private static void ways() {
        Due.says("then = and a figure, 0 to 8: 3 times the MEASURE by which it is built, and the HABIT.");
        for (int way = 0; way <= 8; way++) {
            ThreeMasters x = Due.plan("9f=" + way);
            Due.is("MASTER of " + way, x.floor(0, 2), way / 3);
            Due.is("HABIT of " + way, x.floor(0, 3), way % 3);
        }
        for (char figure : "/9:f;=".toCharArray()) {
            faultOf("9f=" + figure, 3);
        }
        faultOf("9f0", 2);
        faultOf("9f==0", 3);
        faultOf("9f=00", 4);
        faultOf("9f=80", 4);
    }

    private static void placeOfTheFault() {
        Due.says("The FAULT is the place of the first byte with which it cannot go on (an empty text is well: no FLOORS; "
            + "of one that is not ended, its end),");
        well("", 0);
        String whole = "12f+11=8;9e=0";
        int[] ends = {NONE, 1, 2, 3, 4, 5, 6, 7, NONE, 9, 10, 11, 12, NONE};
        for (int n = 0; n <= whole.length(); n++) {
            faultOf(whole.substring(0, n), ends[n]);
        }
        for (int at = 0; at < whole.length(); at++) {
            faultOf(whole.substring(0, at) + "x" + whole.substring(at + 1), at);
        }
        faultOf(whole + "xx", 13);
        faultOf("x" + whole + "x", 0);
        // The end of a text that can take no byte more, and one where a longer text was wiped.
        faultOf(EIGHTY.substring(0, 72) + "99f+1=0;", 80);
        faultOf(EIGHTY.substring(0, 72) + "99f+11+=", 78);
        ThreeMasters again = Due.plan("99f+11=8");
        again.wipe();
        for (int n = 1; n < 8; n++) {
            again.type("99f+11=8".charAt(n - 1));
            Due.is("fault() where more was wiped", again.fault(), n);
        }
    }

    private static void numberThatMayNotBe() {
        Due.says("of the first figure of a number that may not be,");
        faultOf("0", 0);
        faultOf("00", 0);
        faultOf("01", 2);
        for (int b = 0; b < 256; b++) {
            faultOf("0" + (char) b, b >= '1' && b <= '9' ? 2 : 0);
            faultOf("9f+0" + (char) b, b >= '1' && b <= '9' ? 5 : 3);
        }
        faultOf("1f=0;0", 5);
        faultOf("1f=0;00f=0", 5);
        faultOf("1f=0;0f=0", 5);
        faultOf("1f+0", 3);
        faultOf("1f+00", 3);
        faultOf("1f+12", 3);
        faultOf("1f+12=0", 3);
        faultOf("1f=0;1f+12=0", 8);
        faultOf("1f=0;10f+19=0", 9);
        faultOf("1f+11x", 5);
    }

    private static void eleventh() {
        Due.says("or of the first byte of an eleventh.");
        String ten = NINE + ";1f=0";
        for (String rest : new String[] {"", "1", "1f=0", "0", "x", ";", "1f=0;1f=0"}) {
            faultOf(ten + ";" + rest, 50);
        }
        faultOf(ten + "x", 49);
        faultOf(NINE + ";0f=0;1f=0", 45);
        faultOf(NINE + ";1f=9;1f=0", 48);
        faultOf(NINE + ";1f=;1f=0", 48);
    }

    private static void faultComesAndGoes() {
        Due.says("The FAULT; NONE.");
        ThreeMasters x = new ThreeMasters();
        String text = "9f=0;1s+5=7";
        int[] want = {1, 2, 3, NONE, 5, 6, 7, 8, 9, 10, NONE};
        int[] floors = {0, 0, 0, 1, 0, 0, 0, 0, 0, 0, 2};
        for (int i = 0; i < text.length(); i++) {
            x.type(text.charAt(i));
            Due.is("fault() behind byte " + i, x.fault(), want[i]);
            Due.is("FLOORS behind byte " + i, x.count(0), floors[i]);
        }
        x.type('x');
        for (int i = 0; i < 3; i++) {
            Due.is("a FAULT stays", x.fault(), 11);
            x.type("=0;".charAt(i));
        }
        x.wipe();
        Due.is("fault() behind wipe()", x.fault(), NONE);
    }

    private static void asIfItWasEmpty() {
        Due.says("With a FAULT it is as if it was empty.");
        for (String text : new String[] {"9f+6=0;3e=4;", "9f+6=0;3e=4x", "0", NINE + ";1f=0;"}) {
            ThreeMasters x = Scene.furnished(Due.plan(text));
            Scene.alike("'" + text + "'", Scene.seen(x), Scene.seen(Scene.furnished(new ThreeMasters())),
                "count(1)", "fault()", "wipe()", "digest()");
        }
        ThreeMasters x = Due.plan("9f+6=0;3e=4");
        x.sheet(0, 2, 3);
        x.type(';');
        Due.is("write() with a FAULT", x.write(0), 0);
        Due.is("item 0 stays", x.get(0, 2, 0), 0);
        Due.is("bytes with a FAULT", x.count(1), 12);
    }

    private static void wipe() {
        Due.says("THE PLAN is empty: how many bytes it had.");
        for (String text : new String[] {"", "9", "9f=0", "x", NINE + ";1f=0;1", EIGHTY}) {
            ThreeMasters x = Due.plan(text);
            Due.is("wipe() of '" + text + "'", x.wipe(), text.length());
            Due.is("wipe() again", x.wipe(), 0);
            Scene.alike("wiped", Scene.seen(x), Scene.seen(new ThreeMasters()));
        }
        ThreeMasters shorter = Due.plan("9f+6=0;3e=4;50s=7");
        shorter.wipe();
        Scene.alike("a shorter one behind wipe()", Scene.seen(Due.typed(shorter, "9f=1")), Scene.seen(Due.plan("9f=1")));
    }

    private static void meantIs(int size, String high, int want) {
        ThreeMasters x = Due.plan(high + "=0");
        x.measure(0, 0, size);
        Due.is("MEANT of " + high + ", SIZE " + size, x.floor(0, 0), want);
    }

    private static void meant() {
        Due.says("MEANT: the number of GRAINS (SIZE times (12 times the number, and the twelfths) by 12, cut).");
        meantIs(1, "1f", 1);
        meantIs(1, "1f+11", 1);
        meantIs(1, "99f+11", 99);
        meantIs(2, "1f+5", 2);
        meantIs(2, "1f+6", 3);
        meantIs(2, "1f+7", 3);
        meantIs(11, "1f+1", 11);
        meantIs(12, "1f+1", 13);
        meantIs(13, "1f+1", 14);
        meantIs(13, "1f+11", 24);
        meantIs(13, "1f+10", 23);
        meantIs(999, "1f", 999);
        meantIs(999, "99f", 98901);
        meantIs(999, "99f+11", 99816);
        ThreeMasters x = Due.plan("1f+1=8");
        x.measure(2, 0, 7);
        Due.is("MEANT is by the letter's MEASURE", x.floor(0, 0), 13);
    }

    private static void built() {
        Due.says("BUILT: MEANT, cut by the HABIT to parts of the GRID of the MEASURE by which it is built.");
        int[][] want = {{108, 120, 108}, {90, 135, 135}, {108, 117, 117}};
        for (int way = 0; way < 9; way++) {
            // MEANT 113 is 9 feet and 5, 2 ells and 23, 12 spans and 5.
            Due.is("BUILT by " + way, Due.plan("9f+5=" + way).floor(0, 1), want[way / 3][way % 3]);
        }
        ThreeMasters x = Due.plan("9f+5=3");
        x.measure(1, 1, 9);
        Due.is("BUILT by parts of 5", x.floor(0, 1), 110);
        x.measure(1, 0, 113);
        Due.is("BUILT just so", x.floor(0, 1), 113);
        x.measure(1, 0, 114);
        x.measure(1, 1, 1);
        Due.is("BUILT, one short of a whole", x.floor(0, 1), 0);
    }

    private static void sills() {
        Due.says("SILL of a FLOOR: all BUILT below it, together; its SHOULD: all MEANT.");
        Due.says("SILL of a FLOOR (0 to the top) (what = 0), its SHOULD (1), OFF (2), as any number. BAD: -100002.");
        ThreeMasters x = Due.plan("9f+5=0;1f+5=1;2s=4");
        int[][] want = {{0, 0, 0}, {108, 113, -5}, {132, 130, 2}, {177, 148, 29}};
        for (int f = -1; f <= 4; f++) {
            for (int what = -1; what <= 3; what++) {
                boolean may = f >= 0 && f <= 3 && what >= 0 && what <= 2;
                Due.is("sill(" + f + ", " + what + ")", x.sill(f, what), may ? want[f][what] : ANY_BAD);
            }
        }
    }

    private static void shims() {
        Due.says("FLOORS 0 to 9, whether they are there or not, can be SHIMMED by some GRAINS (-99 to 99; 0 at first): "
            + "they count to BUILT.");
        Due.says("SHIMMED, as any number: what it was. BAD: -100002 (FLOORS 0 to 9).");
        ThreeMasters x = Due.plan("9f=0");
        int[] shims = {0, -100, -99, -98, 98, 99, 100, 1, -1};
        int was = 0;
        for (int v : shims) {
            boolean may = v >= -99 && v <= 99;
            Due.is("shim(0, " + v + ")", x.shim(0, v), may ? was : ANY_BAD);
            was = may ? v : was;
            Due.is("BUILT", x.floor(0, 1), 108 + was);
            Due.is("SILL", x.sill(1, 0), 108 + was);
            Due.is("SHIMMED", x.floor(0, 5), was);
        }
        for (int f = -1; f <= 10; f++) {
            Due.is("shim(" + f + ", 5)", x.shim(f, 5), f < 0 || f > 9 ? ANY_BAD : f == 0 ? -1 : 0);
        }
        Due.is("SHIMS of FLOORS that are not there aside", x.sill(1, 0), 113);
        Due.typed(x, ";9f=0");
        Due.is("once it is there", x.sill(2, 0), 226);
    }

    private static void floor() {
        Due.says("Of a FLOOR: MEANT (what = 0), BUILT (1), MASTER (2), HABIT (3), FOUND (4; NONE), SHIMMED as any number (5). "
            + "BAD: -100002.");
        ThreeMasters x = Due.plan("9f+5=0;1f+5=7");
        x.found(1, 99999);
        x.shim(0, -99);
        x.shim(1, 99);
        int[][] want = {{113, 9, 0, 0, NONE, -99}, {17, 117, 2, 1, 99999, 99}};
        for (int f = -1; f <= 2; f++) {
            for (int what = -1; what <= 6; what++) {
                boolean may = f >= 0 && f <= 1 && what >= 0 && what <= 5;
                Due.is("floor(" + f + ", " + what + ")", x.floor(f, what), may ? want[f][what] : ANY_BAD);
            }
        }
    }
}
