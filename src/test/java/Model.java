import java.math.BigInteger;
import java.util.ArrayList;
import java.util.List;

/**
 * The document once more, as slow and plain as can be: everything is reckoned anew for each answer, and choices are
 * made by trying all. ModelTest holds ThreeMasters against it.
 */
final class Model {
    static final int BAD = -2, NONE = -1, ANY = -100000;

    final int[] size = {12, 45, 9};
    final int[] grid = {1, 1, 1};
    final int[] shim = new int[10];
    final int[] found = {-1, -1, -1, -1, -1, -1, -1, -1, -1, -1};
    final int[] weight = new int[10];
    final int[] lean = new int[11];
    final int[] setting = {0, 200, 2, 5};
    final StringBuilder text = new StringBuilder();

    /** Number, letter, twelfths and way of a floor. */
    record Told(int number, int unit, int twelfths, int way) {
    }

    /** Reads byte by byte by a row of states: 0 number, 1 its second figure, 2 letter, 3 + or =, 4 and 5 twelfths, 6 =, 7 way, 8 ; */
    int fault() {
        int state = 0, floors = 0, start = 0, number = 0;
        for (int i = 0; i < text.length(); i++) {
            char c = text.charAt(i);
            boolean figure = c >= '0' && c <= '9';
            if (state == 1 || state == 5) {
                if (figure) {
                    number = 10 * number + c - '0';
                    if (number < 1 || number > (state == 1 ? 99 : 11)) {
                        return start;
                    }
                    state++;
                    continue;
                }
                if (number < 1) {
                    return start;
                }
                state++;
            }
            if (state == 0 && floors == 10) {
                return i;
            }
            if (state == 0 || state == 4) {
                if (!figure) {
                    return i;
                }
                start = i;
                number = c - '0';
                state++;
            } else if (state == 2 && "fes".indexOf(c) >= 0 || state == 7 && c >= '0' && c <= '8') {
                state++;
                floors += state == 8 ? 1 : 0;
            } else if (state == 3 && c == '+') {
                state = 4;
            } else if ((state == 3 || state == 6) && c == '=') {
                state = 7;
            } else if (state == 8 && c == ';') {
                state = 0;
            } else {
                return i;
            }
        }
        if ((state == 1 || state == 5) && number < 1) {
            return start;
        }
        return state == 8 || text.length() == 0 ? NONE : text.length();
    }

    List<Told> floors() {
        List<Told> told = new ArrayList<>();
        if (fault() != NONE || text.length() == 0) {
            return told;
        }
        for (String part : text.toString().split(";")) {
            String[] sides = part.split("=");
            String[] high = sides[0].split("\\+");
            int letter = high[0].length() - 1;
            told.add(new Told(Integer.parseInt(high[0].substring(0, letter)), "fes".indexOf(high[0].charAt(letter)),
                high.length == 2 ? Integer.parseInt(high[1]) : 0, Integer.parseInt(sides[1])));
        }
        return told;
    }

    int top() {
        return floors().size();
    }

    boolean there(int floor) {
        return floor >= 0 && floor < top();
    }

    int meant(int f) {
        Told t = floors().get(f);
        return size[t.unit] * (12 * t.number + t.twelfths) / 12;
    }

    int cut(int length, int way) {
        int s = size[way / 3], g = grid[way / 3];
        int k = 0;
        if (way % 3 == 0) {
            k = length * g / s;
        } else if (way % 3 == 1) {
            k = (int) Math.ceil(length * g / (double) s - 1e-9);
        } else {
            int low = length * g / s;
            // Distances times s, so that they are whole.
            k = (low + 1) * s - length * g < length * g - low * s ? low + 1 : low;
        }
        return k * s / g;
    }

    int bare(int f) {
        return cut(meant(f), floors().get(f).way);
    }

    int built(int f) {
        return bare(f) + shim[f];
    }

    int floor(int f, int what) {
        if (!there(f) || what < 0 || what > 5) {
            return ANY + BAD;
        }
        int way = floors().get(f).way;
        return new int[] {meant(f), built(f), way / 3, way % 3, found[f], shim[f]}[what];
    }

    int sill(int f, int what) {
        if (f < 0 || f > top() || what < 0 || what > 2) {
            return ANY + BAD;
        }
        int is = 0, should = 0;
        for (int i = 0; i < f; i++) {
            is += built(i);
            should += meant(i);
        }
        return new int[] {is, should, is - should}[what];
    }

    int worst() {
        int most = 0, at = 0;
        for (int f = 0; f <= top(); f++) {
            if (Math.abs(sill(f, 2)) > most) {
                most = Math.abs(sill(f, 2));
                at = f;
            }
        }
        return at;
    }

    int stairs(int f, int n, int height) {
        return there(f) && n >= 1 && n <= 40 && height >= 1 && height <= 99 ? built(f) - n * height : ANY + BAD;
    }

    int even(int f, int from, int to, int what) {
        if (!there(f) || from < 1 || to > 99 || from > to || what < 0 || what > 2) {
            return BAD;
        }
        int built = built(f);
        int[] best = {0, 0, Integer.MAX_VALUE};
        for (int n = 1; n <= 40; n++) {
            for (int h = from; h <= to; h++) {
                if (Math.abs(built - n * h) < best[2]) {
                    best = new int[] {h, n, Math.abs(built - n * h)};
                }
            }
        }
        return best[what];
    }

    static long refusal(int code) {
        return Long.MIN_VALUE + -code;
    }

    static long fraction(long above, long below, int what) {
        BigInteger common = BigInteger.valueOf(above).gcd(BigInteger.valueOf(below));
        return BigInteger.valueOf(what == 0 ? above : below).divide(common).longValue();
    }

    long blame(int k, int which, int what) {
        if (k < 0 || k > 2 || which < 0 || which > 1 || what < 0 || what > 1) {
            return refusal(BAD);
        }
        long[] by = new long[3];
        for (int f = 0; f < top(); f++) {
            by[floors().get(f).way / 3] += Math.abs(bare(f) - meant(f));
        }
        long all = by[0] + by[1] + by[2];
        if (which == 0) {
            return fraction(by[k], 1, what);
        }
        return all == 0 ? refusal(-3) : fraction(by[k], all, what);
    }

    int fits(int f) {
        if (!there(f)) {
            return BAD;
        }
        int bits = 0;
        for (int way = 8; way >= 0; way--) {
            int off = cut(meant(f), way) - found[f];
            bits = 2 * bits + (found[f] == NONE || off <= setting[0] && -off <= setting[0] ? 1 : 0);
        }
        return bits;
    }

    /** Ways of floors f and above when the one below was built in a way (NONE: any); with the pinned floor in the measure. */
    long worlds(int f, int below, int pinned, int measure, int[] fit) {
        if (f == fit.length) {
            return 1;
        }
        long sum = 0;
        for (int way = 0; way < 9; way++) {
            boolean may = (fit[f] >> way & 1) == 1 && (f != pinned || way / 3 == measure);
            if (may && (below == NONE || below / 3 != way / 3 || below == way)) {
                sum += worlds(f + 1, way, pinned, measure, fit);
            }
        }
        return sum;
    }

    long worlds(int pinned, int measure) {
        int[] fit = new int[top()];
        for (int f = 0; f < fit.length; f++) {
            fit[f] = fits(f);
        }
        return worlds(0, NONE, pinned, measure, fit);
    }

    long odds(int f, int measure, int what) {
        if (!there(f) || measure < 0 || measure > 2 || what < 0 || what > 1) {
            return refusal(BAD);
        }
        long all = worlds(NONE, 0);
        return all == 0 ? refusal(-3) : fraction(worlds(f, measure), all, what);
    }

    boolean lifted(int w, int from, int to) {
        for (int a = from; a <= to; a++) {
            for (int b = from; b <= to; b++) {
                if (lean[a] - lean[b] > setting[1] - w) {
                    return false;
                }
            }
        }
        return true;
    }

    int runs(int w, int from, int to) {
        if (w < 1 || w > 999 || from < 0 || to < from || to > top()) {
            return BAD;
        }
        return lifted(w, from, to) ? 1 : 0;
    }

    int lifts() {
        int top = top();
        int w = 999;
        while (w > 0 && !lifted(w, 0, top)) {
            w--;
        }
        return w;
    }

    int longest(int w, int what) {
        if (w < 1 || w > 999 || what < 0 || what > 1) {
            return BAD;
        }
        int top = top();
        for (int n = top + 1; n > 0; n--) {
            for (int from = 0; from + n - 1 <= top; from++) {
                if (lifted(w, from, from + n - 1)) {
                    return what == 0 ? n : from;
                }
            }
        }
        return what == 0 ? 0 : NONE;
    }

    /** Least costs from each floor on by what the shims below it come to, all shims tried. */
    int mended(int sills, int floor) {
        int top = top();
        if (sills < 0 || sills > 1023 || floor != NONE && !there(floor)) {
            return ANY + BAD;
        }
        int last = 0;
        for (int sill = 1; sill <= top; sill++) {
            last = (sills >> sill - 1 & 1) == 1 ? sill : last;
        }
        final int zero = 99 * 10, never = 1 << 20;
        int[][] least = new int[last + 1][2 * zero + 1];
        for (int f = last; f >= 0; f--) {
            boolean told = f > 0 && (sills >> f - 1 & 1) == 1;
            int want = -sill(f, 2);
            for (int sum = -zero; sum <= zero; sum++) {
                int best = f == last ? 0 : never;
                for (int s = -99; f < last && s <= 99; s++) {
                    if (Math.abs(sum + s) <= zero) {
                        best = Math.min(best, price(s) + least[f + 1][sum + s + zero]);
                    }
                }
                least[f][sum + zero] = told && sum != want ? never : Math.min(best, never);
            }
        }
        int cost = least[0][zero];
        if (floor == NONE || cost == never) {
            return cost == never ? floor == NONE ? NONE : ANY - 3 : cost;
        }
        int sum = 0;
        int[] row = new int[10];
        for (int f = 0; f < last; f++) {
            int s = -99;
            while (Math.abs(sum + s) > zero || price(s) + least[f + 1][sum + s + zero] != least[f][sum + zero]) {
                s++;
            }
            row[f] = s;
            sum += s;
        }
        return row[floor];
    }

    private int price(int s) {
        return s > 0 ? s * setting[2] : -s * setting[3];
    }

    int next(int m, int what) {
        if (m < 1 || m > 9999 || what < 0 || what > 1) {
            return BAD;
        }
        int off = sill(top(), 2);
        int least = Integer.MAX_VALUE, best = NONE;
        for (int way = 8; way >= 0; way--) {
            int far = Math.abs(off + cut(m, way) - m);
            if (far <= least) {
                least = far;
                best = way;
            }
        }
        return what == 0 ? best : least;
    }

    int bears(int f, int k) {
        if (!there(f) || k < 0 || k > 2) {
            return BAD;
        }
        int tenfold = (k + 2) * built(f);
        return tenfold < 0 ? -(-tenfold / 10) : tenfold / 10;
    }

    int safe(int k, int onTop) {
        if (k < 0 || k > 2) {
            return BAD;
        }
        int top = top();
        for (int f = 0; f < top; f++) {
            int above = f < top - 1 ? onTop : 0;
            for (int g = f + 1; g < top; g++) {
                above += weight[g];
            }
            if (above > bears(f, k)) {
                return f;
            }
        }
        return NONE;
    }

    int more() {
        int more = top() == 0 ? NONE : 99;
        while (more >= 0 && (safe(0, more) != NONE || safe(1, more) != NONE || safe(2, more) != NONE)) {
            more--;
        }
        return more;
    }

    int stones(int what) {
        if (what < 0 || what > 1) {
            return BAD;
        }
        int sum = 0;
        for (int f = 0; f < top(); f++) {
            int bought = (int) Math.ceil(meant(f) / 10.0), is = (int) Math.ceil(built(f) / 10.0);
            int over = what == 0 ? bought - is : is - bought;
            sum += over > 0 ? over : 0;
        }
        return sum;
    }
}
