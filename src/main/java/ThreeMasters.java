import java.util.Arrays;

/** A tower by three masters. The promises it keeps stand in DOC.md; README.md tells its parts. */
public final class ThreeMasters {
    public static final int NONE = -1, BAD = -2, NOT = -3, FULL = -4;

    /** What is added to a refusal where any number is told. */
    private static final int ANY = -100000;
    /** found() has a refusal of its own. */
    private static final int BAD_FIND = -5;
    private static final int LEAST_INT = 1 << 31;
    private static final long LEAST_LONG = 1L << 63;

    private static final int NULL = 1, INDEX = 2, CAST = 3, STORE = 4, SIZE = 5;

    private static final int MASTERS = 3, WAYS = 9, MOST_FLOORS = 10, MOST_BYTES = 80;
    private static final int MOST_SHIM = 99, MOST_STEPS = 40, MOST_RISE = 99, MOST_FOUND = 99999;
    private static final int MOST_WIDTH = 999, MOST_WEIGHT = 99, SHEETS = 4, MOST_ITEMS = 48;

    private static final int SLACK = 0, ROOM = 1, SHIM = 2, CUT = 3;
    private static final int[] LEAST_SET = {0, 1, 0, 0};
    private static final int[] MOST_SET = {99, 999, 9, 9};

    private final Measures measures;
    private final Plan plan;
    private final Tower tower;
    private final Finds finds;
    private final Shaft shaft;
    private final Mender mender;
    private final Loads loads;
    private final Sheet[] sheets;
    private final int[] settings = {0, 200, 2, 5};
    private int latestFinding;

    public ThreeMasters() {
        measures = new Measures();
        plan = new Plan();
        tower = new Tower(measures, plan);
        finds = new Finds(measures, tower);
        shaft = new Shaft();
        mender = new Mender();
        loads = new Loads(tower);
        sheets = new Sheet[SHEETS];
        for (int s = 0; s < SHEETS; s++) {
            sheets[s] = new Sheet();
        }
    }

    // ---- measures, plans

    public int measure(int k, int what, int v) {
        if (!isMaster(k) || !within(what, 0, 1) || !within(v, 1, what == 0 ? 999 : 9)) {
            return BAD;
        }
        int was = measures.exchange(k, what, v);
        tower.reckon();
        return was;
    }

    public int type(int b) {
        if (!within(b, 0, 255)) {
            return BAD;
        }
        if (plan.length >= MOST_BYTES) {
            return FULL;
        }
        plan.append(b);
        tower.reckon();
        return plan.length;
    }

    public int wipe() {
        int had = plan.length;
        plan.clear();
        tower.reckon();
        return had;
    }

    public int fault() {
        return plan.fault;
    }

    public int floor(int floor, int what) {
        if (!isFloor(floor)) {
            return ANY + BAD;
        }
        switch (what) {
            case 0: return tower.meant[floor];
            case 1: return tower.built(floor);
            case 2: return plan.master(floor);
            case 3: return plan.habit(floor);
            case 4: return finds.heights[floor];
            case 5: return tower.shims[floor];
            default: return ANY + BAD;
        }
    }

    public int cut(int length, int measure, int habit) {
        if (!within(length, 0, 99999) || !isMaster(measure) || !within(habit, 0, 2)) {
            return BAD;
        }
        return measures.toParts(length, measure, habit);
    }

    public int shim(int floor, int v) {
        if (!isSpot(floor) || !within(v, -MOST_SHIM, MOST_SHIM)) {
            return ANY + BAD;
        }
        int was = tower.shims[floor];
        tower.shims[floor] = v;
        tower.reckon();
        return was;
    }

    public int set(int what, int v) {
        if (!within(what, SLACK, CUT) || !within(v, LEAST_SET[what], MOST_SET[what])) {
            return BAD;
        }
        int was = settings[what];
        settings[what] = v;
        return was;
    }

    // ---- how far off

    public int sill(int floor, int what) {
        if (!isSill(floor)) {
            return ANY + BAD;
        }
        switch (what) {
            case 0: return tower.sills[floor];
            case 1: return tower.shoulds[floor];
            case 2: return tower.off(floor);
            default: return ANY + BAD;
        }
    }

    public int worst() {
        int worst = 0;
        for (int f = 1; f <= plan.floors; f++) {
            if (Math.abs(tower.off(f)) > Math.abs(tower.off(worst))) {
                worst = f;
            }
        }
        return worst;
    }

    public int stairs(int floor, int n, int height) {
        if (!isFloor(floor) || !within(n, 1, MOST_STEPS) || !within(height, 1, MOST_RISE)) {
            return ANY + BAD;
        }
        return tower.built(floor) - n * height;
    }

    public int even(int floor, int from, int to, int what) {
        if (!isFloor(floor) || !within(from, 1, MOST_RISE) || !within(to, from, MOST_RISE) || !within(what, 0, 2)) {
            return BAD;
        }
        int built = tower.built(floor);
        int steps = evenSteps(built, from, to);
        int height = evenHeight(built, steps, from, to);
        switch (what) {
            case 0: return height;
            case 1: return steps;
            default: return Math.abs(built - steps * height);
        }
    }

    public long blame(int master, int which, int what) {
        if (!isMaster(master) || !within(which, 0, 1) || !within(what, 0, 1)) {
            return refuseLong(BAD);
        }
        long own = tower.missBy(master);
        if (which == 0) {
            return what == 0 ? own : 1;
        }
        long all = 0;
        for (int k = 0; k < MASTERS; k++) {
            all += tower.missBy(k);
        }
        return all == 0 ? refuseLong(NOT) : inLowestTerms(own, all, what);
    }

    // ---- found

    public int found(int floor, int v) {
        if (!isSpot(floor) || !isHeight(v)) {
            return BAD_FIND;
        }
        int was = finds.heights[floor];
        finds.heights[floor] = v;
        return was;
    }

    public int read(int s) {
        int refusal = refuseSheet(s);
        if (refusal != 0) {
            return refusal;
        }
        Sheet sheet = sheets[s];
        int most = Math.min(sheet.size, MOST_FLOORS);
        int done = 0;
        while (done < most && isHeight(sheet.items[done])) {
            finds.heights[done] = sheet.items[done];
            done++;
        }
        return done;
    }

    public int fits(int floor) {
        return isFloor(floor) ? finds.fitBits(floor, settings[SLACK]) : BAD;
    }

    public long worlds() {
        return finds.countWorlds(settings[SLACK], NONE, 0);
    }

    public long odds(int floor, int measure, int what) {
        if (!isFloor(floor) || !isMaster(measure) || !within(what, 0, 1)) {
            return refuseLong(BAD);
        }
        long all = worlds();
        if (all == 0) {
            return refuseLong(NOT);
        }
        return inLowestTerms(finds.countWorlds(settings[SLACK], floor, measure), all, what);
    }

    // ---- shafts, mending

    public int lean(int sill, int v) {
        if (!within(sill, 0, MOST_FLOORS) || !within(v, -99, 99)) {
            return ANY + BAD;
        }
        int was = shaft.leaning[sill];
        shaft.leaning[sill] = v;
        return was;
    }

    public int runs(int w, int from, int to) {
        if (!within(w, 1, MOST_WIDTH) || !isSill(from) || !isSill(to) || to < from) {
            return BAD;
        }
        return shaft.spread(from, to) <= settings[ROOM] - w ? 1 : 0;
    }

    public int lifts() {
        return Math.max(0, settings[ROOM] - shaft.spread(0, plan.floors));
    }

    public int longest(int w, int what) {
        if (!within(w, 1, MOST_WIDTH) || !within(what, 0, 1)) {
            return BAD;
        }
        int most = 0;
        int start = NONE;
        for (int sill = 0; sill <= plan.floors; sill++) {
            int length = shaft.lengthFrom(sill, plan.floors, settings[ROOM] - w);
            if (length > most) {
                most = length;
                start = sill;
            }
        }
        return what == 0 ? most : start;
    }

    public int mended(int sills, int floor) {
        if (!within(sills, 0, 1023) || floor != NONE && !isFloor(floor)) {
            return ANY + BAD;
        }
        int cost = mender.work(tower, sills, settings[SHIM], settings[CUT]);
        if (floor == NONE) {
            return cost;
        }
        return cost == NONE ? ANY + NOT : mender.row[floor];
    }

    public int next(int m, int what) {
        if (!within(m, 1, 9999) || !within(what, 0, 1)) {
            return BAD;
        }
        int best = 0;
        for (int way = 1; way < WAYS; way++) {
            if (offAfter(m, way) < offAfter(m, best)) {
                best = way;
            }
        }
        return what == 0 ? best : offAfter(m, best);
    }

    // ---- loads, stones

    public int weigh(int floor, int v) {
        if (!isSpot(floor) || !within(v, 0, MOST_WEIGHT)) {
            return BAD;
        }
        int was = loads.weights[floor];
        loads.weights[floor] = v;
        return was;
    }

    public int bears(int floor, int master) {
        return isFloor(floor) && isMaster(master) ? loads.strength(floor, master) : BAD;
    }

    public int safe(int master) {
        return isMaster(master) ? loads.firstOverborne(master) : BAD;
    }

    public int more() {
        return plan.floors == 0 ? NONE : loads.spareOnTop();
    }

    public int stones(int what) {
        if (!within(what, 0, 1)) {
            return BAD;
        }
        int sum = 0;
        for (int f = 0; f < plan.floors; f++) {
            int tooMany = stonesFor(tower.meant[f]) - stonesFor(tower.built(f));
            sum += Math.max(0, what == 0 ? tooMany : -tooMany);
        }
        return sum;
    }

    // ---- sheets

    public int sheet(int s, int form, int n) {
        if (!isSheet(s) || !isForm(form) || n > MOST_ITEMS) {
            return BAD;
        }
        if (n < 0) {
            return finding(SIZE);
        }
        sheets[s].renew(form, n);
        return n;
    }

    public int lose(int s) {
        int refusal = refuseSheet(s);
        if (refusal != 0) {
            return refusal;
        }
        int had = sheets[s].size;
        sheets[s].renew(NONE, 0);
        return had;
    }

    public int put(int s, int form, int i, int v) {
        int refusal = refuseItem(s, form, i);
        if (refusal != 0) {
            return refusal;
        }
        sheets[s].store(i, v);
        return 1;
    }

    public int get(int s, int form, int i) {
        return refuseItem(s, form, i) != 0 ? LEAST_INT : sheets[s].items[i];
    }

    public int copy(int s, int i, int t, int j, int n) {
        if (!isSheet(s) || !isSheet(t)) {
            return BAD;
        }
        Sheet source = sheets[s];
        Sheet target = sheets[t];
        if (source.isLost() || target.isLost()) {
            return finding(NULL);
        }
        if (source.form != target.form) {
            return finding(STORE);
        }
        if (!source.hasRun(i, n) || !target.hasRun(j, n)) {
            return finding(INDEX);
        }
        System.arraycopy(source.items, i, target.items, j, n);
        return 1;
    }

    public int write(int s) {
        int refusal = refuseSheet(s);
        if (refusal != 0) {
            return refusal;
        }
        int n = Math.min(sheets[s].size, plan.floors);
        for (int f = 0; f < n; f++) {
            sheets[s].store(f, tower.built(f));
        }
        return n;
    }

    public int count(int what) {
        switch (what) {
            case 0: return plan.floors;
            case 1: return plan.length;
            case 2: return tower.shoulds[plan.floors];
            case 3: return finds.howMany();
            case 4: return settings[SLACK];
            case 5: return settings[ROOM];
            case 6: return settings[SHIM];
            case 7: return settings[CUT];
            case 8: return latestFinding;
            default: return BAD;
        }
    }

    public long digest() {
        long h = 17;
        for (int what = 0; what <= 7; what++) {
            h = mix(h, count(what));
        }
        h = mix(h, fault());
        for (int f = 0; f < plan.floors; f++) {
            h = mixFloor(h, f);
        }
        h = mix(h, sill(plan.floors, 0));
        h = mix(h, sill(plan.floors, 2));
        h = mix(h, worst());
        for (int k = 0; k < MASTERS; k++) {
            h = mixMaster(h, k);
        }
        h = mix(h, worlds());
        h = mix(h, lifts());
        h = mix(h, longest(150, 0));
        h = mix(h, longest(150, 1));
        h = mix(h, mended(1023, NONE));
        h = mix(h, next(100, 0));
        h = mix(h, next(100, 1));
        h = mix(h, more());
        h = mix(h, stones(0));
        return mix(h, stones(1));
    }

    private long mixFloor(long before, int f) {
        long h = before;
        for (int what = 0; what <= 5; what++) {
            h = mix(h, floor(f, what));
        }
        h = mix(h, sill(f, 0));
        h = mix(h, sill(f, 2));
        h = mix(h, fits(f));
        for (int what = 0; what <= 2; what++) {
            h = mix(h, even(f, 15, 20, what));
        }
        h = mix(h, odds(f, 0, 0));
        h = mix(h, odds(f, 0, 1));
        for (int k = 0; k < MASTERS; k++) {
            h = mix(h, bears(f, k));
        }
        return h;
    }

    private long mixMaster(long before, int k) {
        long h = mix(before, blame(k, 0, 0));
        h = mix(h, blame(k, 0, 1));
        h = mix(h, blame(k, 1, 0));
        h = mix(h, blame(k, 1, 1));
        return mix(h, safe(k));
    }

    private static long mix(long h, long v) {
        return 31 * h + v;
    }

    private static boolean within(int v, int least, int most) {
        return v >= least && v <= most;
    }

    private static boolean isMaster(int k) {
        return within(k, 0, MASTERS - 1);
    }

    private static boolean isSheet(int s) {
        return within(s, 0, SHEETS - 1);
    }

    private static boolean isForm(int form) {
        return within(form, 0, 2);
    }

    private static boolean isHeight(int v) {
        return v == NONE || within(v, 1, MOST_FOUND);
    }

    /** A place for a floor, whether one is there or not. */
    private static boolean isSpot(int floor) {
        return within(floor, 0, MOST_FLOORS - 1);
    }

    private boolean isFloor(int floor) {
        return within(floor, 0, plan.floors - 1);
    }

    private boolean isSill(int floor) {
        return within(floor, 0, plan.floors);
    }

    private static long refuseLong(int refusal) {
        return LEAST_LONG - refusal;
    }

    private int finding(int number) {
        latestFinding = number;
        return -10 - number;
    }

    /** 0 where the sheet may be used. */
    private int refuseSheet(int s) {
        if (!isSheet(s)) {
            return BAD;
        }
        return sheets[s].isLost() ? finding(NULL) : 0;
    }

    /** 0 where the item may be used. */
    private int refuseItem(int s, int form, int i) {
        if (!isForm(form)) {
            return BAD;
        }
        int refusal = refuseSheet(s);
        if (refusal != 0) {
            return refusal;
        }
        if (sheets[s].form != form) {
            return finding(CAST);
        }
        return within(i, 0, sheets[s].size - 1) ? 0 : finding(INDEX);
    }

    /** One term of a fraction with below above 0: the upper for what 0, else the lower. */
    private static long inLowestTerms(long above, long below, int what) {
        long divisor = below;
        long rest = above;
        // Euclid's steps at least halve the rest every second time: 128 are plenty for longs.
        for (int i = 0; i < 128 && rest != 0; i++) {
            long left = divisor % rest;
            divisor = rest;
            rest = left;
        }
        long term = what == 0 ? above : below;
        return divisor == 0 ? term : term / divisor;
    }

    private static int evenSteps(int built, int from, int to) {
        int best = 1;
        int least = Math.abs(built - evenHeight(built, 1, from, to));
        for (int n = 2; n <= MOST_STEPS; n++) {
            int miss = Math.abs(built - n * evenHeight(built, n, from, to));
            if (miss < least) {
                least = miss;
                best = n;
            }
        }
        return best;
    }

    /** The miss grows both ways from where it would be 0, so only the two heights around that place can be best. */
    private static int evenHeight(int built, int steps, int from, int to) {
        int under = steps <= 0 ? from : Math.max(from, Math.min(to, Math.floorDiv(built, steps)));
        int over = Math.min(to, under + 1);
        return Math.abs(built - steps * over) < Math.abs(built - steps * under) ? over : under;
    }

    private int offAfter(int m, int way) {
        return Math.abs(tower.off(plan.floors) + measures.toParts(m, way / 3, way % 3) - m);
    }

    /** Cut up, below 0 too. */
    private static int stonesFor(int length) {
        return -Math.floorDiv(-length, 10);
    }

    private static final class Measures {
        /** These divide: measure() lets none in below 1. */
        private final int[] sizes = {12, 45, 9};
        private final int[] grids = {1, 1, 1};

        int exchange(int k, int what, int v) {
            int[] row = what == 0 ? sizes : grids;
            int was = row[k];
            row[k] = v;
            return was;
        }

        int toParts(int length, int measure, int habit) {
            int size = sizes[measure];
            int grid = grids[measure];
            if (size < 1 || grid < 1) {
                return length;
            }
            int scaled = length * grid;
            int parts;
            if (habit == 0) {
                parts = scaled / size;
            } else if (habit == 1) {
                parts = (scaled + size - 1) / size;
            } else {
                // One less than a half is added, so that a half goes to the lesser.
                parts = (2 * scaled + size - 1) / (2 * size);
            }
            return parts * size / grid;
        }
    }

    /** The text, and what its floors say, read anew whenever the text changes. */
    private static final class Plan {
        private final int[] text = new int[MOST_BYTES];
        private int length;
        private int fault = NONE;
        private int floors;
        private final int[] unit = new int[MOST_FLOORS];
        private final int[] twelfths = new int[MOST_FLOORS];
        private final int[] way = new int[MOST_FLOORS];
        /** Where the reading stands. */
        private int at;

        void append(int b) {
            if (length < MOST_BYTES) {
                text[length] = b;
                length++;
                scan();
            }
        }

        void clear() {
            length = 0;
            scan();
        }

        int master(int floor) {
            return way[floor] / 3;
        }

        int habit(int floor) {
            return way[floor] % 3;
        }

        private void scan() {
            at = 0;
            fault = NONE;
            int told = 0;
            boolean another = length > 0;
            while (another && told < MOST_FLOORS) {
                another = takeFloor(told) && at < length && takeSign(';');
                told++;
            }
            if (another) {
                fail(at);
            }
            floors = fault == NONE ? told : 0;
        }

        private boolean takeFloor(int f) {
            int number = takeNumber(99);
            if (number == NONE || !takeUnit(f)) {
                return false;
            }
            int parts = 0;
            if (sign() == '+') {
                at++;
                parts = takeNumber(11);
            }
            if (parts == NONE || !takeSign('=')) {
                return false;
            }
            twelfths[f] = 12 * number + parts;
            return takeWay(f);
        }

        /** NONE, with the fault told, if there is no such number. */
        private int takeNumber(int most) {
            int start = at;
            int number = 0;
            while (at < start + 2 && isFigure(sign())) {
                number = 10 * number + sign() - '0';
                at++;
            }
            if (!within(number, 1, most)) {
                fail(start);
                return NONE;
            }
            return number;
        }

        private boolean takeUnit(int f) {
            int letter = sign();
            if (letter != 'f' && letter != 'e' && letter != 's') {
                return fail(at);
            }
            unit[f] = letter == 'f' ? 0 : letter == 'e' ? 1 : 2;
            at++;
            return true;
        }

        private boolean takeWay(int f) {
            int figure = sign() - '0';
            if (!within(figure, 0, WAYS - 1)) {
                return fail(at);
            }
            way[f] = figure;
            at++;
            return true;
        }

        private boolean takeSign(char wanted) {
            if (sign() != wanted) {
                return fail(at);
            }
            at++;
            return true;
        }

        /** NONE, which is no byte, at the end. */
        private int sign() {
            return at < length ? text[at] : NONE;
        }

        private static boolean isFigure(int b) {
            return within(b, '0', '9');
        }

        private boolean fail(int place) {
            fault = place;
            return false;
        }
    }

    /** Lengths that follow from plan, measures and shims, reckoned once for every change of these. */
    private static final class Tower {
        private final Measures measures;
        private final Plan plan;
        private final int[] meant = new int[MOST_FLOORS];
        private final int[] unshimmed = new int[MOST_FLOORS];
        private final int[] shims = new int[MOST_FLOORS];
        private final int[] sills = new int[MOST_FLOORS + 1];
        private final int[] shoulds = new int[MOST_FLOORS + 1];

        Tower(Measures measures, Plan plan) {
            this.measures = measures;
            this.plan = plan;
        }

        void reckon() {
            for (int f = 0; f < plan.floors; f++) {
                meant[f] = measures.sizes[plan.unit[f]] * plan.twelfths[f] / 12;
                unshimmed[f] = measures.toParts(meant[f], plan.master(f), plan.habit(f));
                sills[f + 1] = sills[f] + built(f);
                shoulds[f + 1] = shoulds[f] + meant[f];
            }
        }

        int floors() {
            return plan.floors;
        }

        int built(int floor) {
            return unshimmed[floor] + shims[floor];
        }

        int off(int floor) {
            return sills[floor] - shoulds[floor];
        }

        int missBy(int master) {
            int sum = 0;
            for (int f = 0; f < plan.floors; f++) {
                if (plan.master(f) == master) {
                    sum += Math.abs(unshimmed[f] - meant[f]);
                }
            }
            return sum;
        }
    }

    /** What was found, and the worlds that it leaves. */
    private static final class Finds {
        private final Measures measures;
        private final Tower tower;
        private final int[] heights = new int[MOST_FLOORS];
        /** Worlds of the floors so far, by the way of the last of them. */
        private final long[] endings = new long[WAYS];

        Finds(Measures measures, Tower tower) {
            this.measures = measures;
            this.tower = tower;
            Arrays.fill(heights, NONE);
        }

        int howMany() {
            int n = 0;
            for (int f = 0; f < MOST_FLOORS; f++) {
                if (heights[f] != NONE) {
                    n++;
                }
            }
            return n;
        }

        int fitBits(int floor, int slack) {
            int bits = 0;
            for (int way = 0; way < WAYS; way++) {
                int would = measures.toParts(tower.meant[floor], way / 3, way % 3);
                if (heights[floor] == NONE || Math.abs(would - heights[floor]) <= slack) {
                    bits |= 1 << way;
                }
            }
            return bits;
        }

        /** Only those with the floor in the measure; all of them, if the floor is NONE. */
        long countWorlds(int slack, int floor, int measure) {
            // One world without floors that ends in no way: the first floor may then follow in each way.
            Arrays.fill(endings, 0);
            long worlds = 1;
            for (int f = 0; f < tower.floors(); f++) {
                int allowed = f == floor ? 7 << 3 * measure : 511;
                worlds = addFloor(fitBits(f, slack) & allowed, worlds);
            }
            return worlds;
        }

        private long addFloor(int bits, long before) {
            long after = 0;
            for (int first = 0; first < WAYS; first += 3) {
                long inOthers = before - endings[first] - endings[first + 1] - endings[first + 2];
                for (int way = first; way < first + 3; way++) {
                    endings[way] = (bits >> way & 1) == 0 ? 0 : inOthers + endings[way];
                    after += endings[way];
                }
            }
            return after;
        }
    }

    private static final class Shaft {
        private final int[] leaning = new int[MOST_FLOORS + 1];

        int spread(int from, int to) {
            int least = leaning[from];
            int most = least;
            for (int sill = from + 1; sill <= to; sill++) {
                least = Math.min(least, leaning[sill]);
                most = Math.max(most, leaning[sill]);
            }
            return most - least;
        }

        /** By how many sills from one on, up to the top, the spread stays within what is free. */
        int lengthFrom(int from, int top, int free) {
            int sill = from;
            while (sill <= top && spread(from, sill) <= free) {
                sill++;
            }
            return sill - from;
        }
    }

    private static final class Mender {
        private final int[] row = new int[MOST_FLOORS];

        /** The cost, with the row of shims made; NONE if it cannot be. */
        int work(Tower tower, int sills, int shimCost, int cutCost) {
            Arrays.fill(row, 0);
            boolean free = shimCost == 0 && cutCost == 0;
            int cost = 0;
            int start = 0;
            for (int sill = 1; sill <= tower.floors(); sill++) {
                if ((sills >> (sill - 1) & 1) == 0) {
                    continue;
                }
                // Floors between two of the sills serve no other, so each such run is mended by itself.
                int need = tower.off(start) - tower.off(sill);
                if (Math.abs(need) > MOST_SHIM * (sill - start)) {
                    return NONE;
                }
                cost += need > 0 ? need * shimCost : -need * cutCost;
                share(need, start, sill, free);
                start = sill;
            }
            return cost;
        }

        /** To put in here and cut off there costs more, unless both are free: else all shims of a run go one way. */
        private void share(int need, int from, int to, boolean free) {
            int least = free || need < 0 ? -MOST_SHIM : 0;
            int most = free || need > 0 ? MOST_SHIM : 0;
            int left = need;
            for (int f = from; f < to; f++) {
                row[f] = Math.max(least, left - most * (to - f - 1));
                left -= row[f];
            }
        }
    }

    private static final class Loads {
        private final Tower tower;
        private final int[] weights = new int[MOST_FLOORS];

        Loads(Tower tower) {
            this.tower = tower;
        }

        int strength(int floor, int master) {
            return (master + 2) * tower.built(floor) / 10;
        }

        int firstOverborne(int master) {
            for (int f = 0; f < tower.floors(); f++) {
                if (reserve(f, master) < 0) {
                    return f;
                }
            }
            return NONE;
        }

        /** The top floor is above all others, so what it may gain is the least reserve of these. */
        int spareOnTop() {
            int top = tower.floors() - 1;
            int spare = 99;
            for (int k = 0; k < MASTERS; k++) {
                if (firstOverborne(k) != NONE) {
                    return NONE;
                }
                for (int f = 0; f < top; f++) {
                    spare = Math.min(spare, reserve(f, k));
                }
            }
            return spare;
        }

        private int reserve(int floor, int master) {
            int above = 0;
            for (int f = floor + 1; f < tower.floors(); f++) {
                above += weights[f];
            }
            return strength(floor, master) - above;
        }
    }

    /** One row for all forms, made once: a new sheet of 48 items for every call would fill the room. */
    private static final class Sheet {
        private final int[] items = new int[MOST_ITEMS];
        private int form = NONE;
        private int size;

        boolean isLost() {
            return form == NONE;
        }

        void renew(int newForm, int newSize) {
            form = newForm;
            size = newSize;
            Arrays.fill(items, 0);
        }

        /** Looks at the sizes by taking away: a sum might wrap. */
        boolean hasRun(int start, int n) {
            return start >= 0 && n >= 0 && n <= size - start;
        }

        void store(int i, int v) {
            if (within(i, 0, size - 1)) {
                items[i] = form == 0 ? (byte) v : form == 1 ? (short) v : v;
            }
        }
    }
}
