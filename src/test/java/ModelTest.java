import java.util.ArrayList;
import java.util.List;
import java.util.Random;
import java.util.function.ToIntFunction;

/**
 * ThreeMasters held against the Model, over towers drawn by fixed seeds. What is asked of a tower is asked of several
 * objects that came to be alike, as one is good for 512 calls alone.
 */
public final class ModelTest {
    private static final int RUNS = 400;

    private final Random random;
    private final List<ToIntFunction<ThreeMasters>> changes = new ArrayList<>();
    private ThreeMasters x = new ThreeMasters();
    private final Model model = new Model();
    private final String run;

    private ModelTest(int seed) {
        random = new Random(seed);
        run = "seed " + seed + ": ";
    }

    public static void main(String[] args) {
        for (int seed = 0; seed < RUNS; seed++) {
            ModelTest t = new ModelTest(seed);
            t.build(seed % 4 == 3 ? 10 : 5);
            t.ask();
            t.change();
            t.ask();
        }
        for (int seed = 0; seed < 3000; seed++) {
            new ModelTest(seed).scramble();
        }
        Due.end();
    }

    private void change(String call, ToIntFunction<ThreeMasters> change, int due) {
        Due.is(run + call, change.applyAsInt(x), due);
        changes.add(change);
    }

    /** An object to which the same was done, with its calls before it. */
    private void anew() {
        x = new ThreeMasters();
        for (ToIntFunction<ThreeMasters> change : changes) {
            change.applyAsInt(x);
        }
    }

    private int among(int least, int most) {
        return least + random.nextInt(most - least + 1);
    }

    private void type(String text) {
        for (char c : text.toCharArray()) {
            model.text.append(c);
            change("type()", y -> y.type(c), model.text.length());
        }
    }

    private String floor() {
        String high = among(1, 99 >> among(0, 5)) + "" + "fes".charAt(among(0, 2));
        String parts = among(0, 1) == 0 ? "" : "+" + among(1, 11);
        return high + parts + "=" + among(0, 8);
    }

    private void build(int most) {
        for (int k = 0; k < 3; k++) {
            if (among(0, 1) == 0) {
                setSize(k, among(1, among(0, 9) == 0 ? 999 : 60));
            }
            setGrid(k, among(1, among(1, 9)));
        }
        int n = among(0, most);
        for (int f = 0; f < n; f++) {
            type((f == 0 ? "" : ";") + floor());
        }
        change();
    }

    private void setSize(int k, int v) {
        change("measure()", y -> y.measure(k, 0, v), model.size[k]);
        model.size[k] = v;
    }

    private void setGrid(int k, int v) {
        change("measure()", y -> y.measure(k, 1, v), model.grid[k]);
        model.grid[k] = v;
    }

    private void set(int what, int v) {
        change("set()", y -> y.set(what, v), model.setting[what]);
        model.setting[what] = v;
    }

    private void lean(int sill, int v) {
        change("lean()", y -> y.lean(sill, v), model.lean[sill]);
        model.lean[sill] = v;
    }

    private void change() {
        int[] most = {99, 999, 9, 9};
        for (int what = 0; what < 4; what++) {
            set(what, among(what == 1 ? 1 : 0, among(0, 2) == 0 ? what == 1 ? 300 : 1 : most[what]));
        }
        for (int f = 0; f < 10; f++) {
            changeFloor(f);
        }
        for (int sill = 0; sill <= 10; sill++) {
            lean(sill, among(-99, 99) / among(1, 9));
        }
        setSize(among(0, 2), among(1, 40));
    }

    private void changeFloor(int f) {
        int shim = among(0, 2) == 0 ? among(-99, 99) : 0;
        change("shim()", y -> y.shim(f, shim), model.shim[f]);
        model.shim[f] = shim;
        int weight = among(0, 99) / among(1, 30);
        change("weigh()", y -> y.weigh(f, weight), model.weight[f]);
        model.weight[f] = weight;
        if (f < model.top() && among(0, 1) == 0) {
            int near = model.cut(model.meant(f), among(0, 8)) + among(-2, 2);
            int found = Math.max(1, near);
            change("found()", y -> y.found(f, found), model.found[f]);
            model.found[f] = found;
        }
    }

    private void ask() {
        int top = model.top();
        Due.is(run + "fault()", x.fault(), model.fault());
        Due.is(run + "count(0)", x.count(0), top);
        Due.is(run + "count(2)", x.count(2), model.sill(top, 1));
        for (int f = -1; f <= top + 1; f++) {
            anew();
            askFloor(f);
        }
        anew();
        Due.is(run + "worst()", x.worst(), model.worst());
        askWorlds(top);
        askShaft(top);
        askMending(top);
        for (int i = -1; i < 3; i++) {
            Due.is(run + "stones()", x.stones(i), model.stones(i));
            Due.is(run + "safe()", x.safe(i), model.safe(i, 0));
            for (int j = 0; j < 4; j++) {
                Due.is(run + "blame()", x.blame(i, j / 2, j % 2), model.blame(i, j / 2, j % 2));
            }
        }
        Due.is(run + "more()", x.more(), model.more());
        anew();
    }

    private void askFloor(int f) {
        for (int what = -1; what <= 6; what++) {
            Due.is(run + "floor()", x.floor(f, what), model.floor(f, what));
            Due.is(run + "sill()", x.sill(f, what), model.sill(f, what));
            Due.is(run + "bears()", x.bears(f, what), model.bears(f, what));
        }
        Due.is(run + "fits()", x.fits(f), model.fits(f));
        int n = among(0, 41), height = among(0, 100), to = among(0, 100);
        Due.is(run + "stairs()", x.stairs(f, n, height), model.stairs(f, n, height));
        for (int what = -1; what <= 3; what++) {
            Due.is(run + "even()", x.even(f, height, to, what), model.even(f, height, to, what));
            Due.is(run + "even(15, 20)", x.even(f, 15, 20, what), model.even(f, 15, 20, what));
        }
    }

    /** The Model tries all worlds, so only low towers are asked. */
    private void askWorlds(int top) {
        if (top > 4) {
            return;
        }
        Due.is(run + "worlds()", x.worlds(), model.worlds(-1, 0));
        for (int f = 0; f <= top; f++) {
            for (int i = 0; i < 8; i++) {
                Due.is(run + "odds()", x.odds(f, i / 2, i % 2), model.odds(f, i / 2, i % 2));
            }
        }
    }

    private void askShaft(int top) {
        Due.is(run + "lifts()", x.lifts(), model.lifts());
        for (int i = 0; i < 20; i++) {
            int w = among(0, among(0, 3) == 0 ? 1000 : model.setting[1] + 1), from = among(-1, top), to = among(0, top + 1);
            Due.is(run + "runs()", x.runs(w, from, to), model.runs(w, from, to));
            Due.is(run + "longest(0)", x.longest(w, 0), model.longest(w, 0));
            Due.is(run + "longest(1)", x.longest(w, 1), model.longest(w, 1));
        }
        for (int i = 0; i < 10; i++) {
            int m = among(0, among(0, 1) == 0 ? 10000 : 100);
            Due.is(run + "next(0)", x.next(m, 0), model.next(m, 0));
            Due.is(run + "next(1)", x.next(m, 1), model.next(m, 1));
        }
    }

    private void askMending(int top) {
        int[] asked = {1023, among(0, 1023), top == 0 ? 0 : 1 << among(0, top - 1)};
        for (int sills : asked) {
            Due.is(run + "mended(" + sills + ", NONE)", x.mended(sills, -1), model.mended(sills, -1));
            int f = among(0, top);
            Due.is(run + "mended(" + sills + ", " + f + ")", x.mended(sills, f), model.mended(sills, f));
        }
    }

    /** A plan with some bytes changed, left out or put in: where is its fault? */
    private void scramble() {
        StringBuilder text = new StringBuilder(floor());
        int n = among(0, 10);
        for (int f = 0; f < n; f++) {
            text.append(';').append(floor());
        }
        int changes = among(0, 2);
        for (int i = 0; i < changes; i++) {
            char c = "0011289fes+=;x".charAt(among(0, 13));
            int at = among(0, text.length() - 1);
            int how = among(0, 2);
            if (how == 0) {
                text.setCharAt(at, c);
            } else if (how == 1) {
                text.insert(at, c);
            } else if (text.length() > 1) {
                text.deleteCharAt(at);
            }
        }
        text.setLength(Math.min(80, text.length()));
        type(text.toString());
        Due.is(run + "fault() of " + text, x.fault(), model.fault());
        Due.is(run + "count(0) of " + text, x.count(0), model.top());
        Due.is(run + "count(2) of " + text, x.count(2), model.sill(model.top(), 1));
    }
}
