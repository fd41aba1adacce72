import java.util.ArrayList;
import java.util.List;
import java.util.Random;
import java.util.TreeSet;

/**
 * Runs of calls, made up by fixed seeds, on the class and on the model: every answer must be the same. Nothing is
 * promised about an object after its 512th call: when one has been asked so often, a new one is brought to the same
 * state by the calls that have changed something, and the run goes on with it.
 */
public final class ModelTest {
    private static int wrong = 0;

    private final Random dice;
    private static final int MOST_CALLS = 512;

    private interface Call { long on(ContourSheets x); }

    private ContourSheets x = new ContourSheets();
    private final List<Call> changes = new ArrayList<>();
    private int used = 0;
    private final Model m = new Model();
    private final String name;
    private int calls = 0;

    private ModelTest(String name, long seed) {
        this.name = name;
        // Seeds that follow one another begin alike: they are spread first.
        dice = new Random(seed * 0x9E3779B97F4A7C15L);
    }

    private void same(String name, Call call, long want, int... arguments) {
        calls++;
        long got = asked(call);
        if (got != want && ++wrong <= 20) {
            System.out.println(this.name + ", call " + calls + ": " + name + java.util.Arrays.toString(arguments) + " answered " + got + ", the model " + want);
        }
    }

    private long asked(Call call) {
        if (used == MOST_CALLS) {
            x = new ContourSheets();
            used = 0;
            for (Call change : changes) asked(change);
        }
        used++;
        return call.on(x);
    }

    /** A call that may change something: an object made later must be given it too. */
    private void change(String name, Call call, long want, int... arguments) {
        same(name, call, want, arguments);
        changes.add(call);
        if (changes.size() >= MOST_CALLS) throw new IllegalStateException(this.name + " changes more than an object's calls can");
    }

    private static long b(boolean v) { return v ? 1 : 0; }

    private void spacing(int g, int mm) { change("spacing", o -> b(o.spacing(g, mm)), b(m.spacing(g, mm)), g, mm); }
    private void row(int g, int i, int l, int at) { change("row", o -> b(o.row(g, i, l, at)), b(m.row(g, i, l, at)), g, i, l, at); }
    private void height(int g, int i, int j, int bits) { change("height", o -> b(o.height(g, i, j, bits)), b(m.height(g, i, j, bits)), g, i, j, bits); }
    private void missing(int g, int i, int j) { change("missing", o -> b(o.missing(g, i, j)), b(m.missing(g, i, j)), g, i, j); }
    private void at(int g, int i, int j) { same("at", o -> o.at(g, i, j), m.at(g, i, j), g, i, j); }
    private void level(int mm) { change("level", o -> o.level(mm), m.level(mm), mm); }
    private void contour(int g) { change("contour", o -> o.contour(g), m.contour(g), g); }
    private void line(int k, int what) { same("line", o -> o.line(k, what), m.line(k, what), k, what); }
    private void side(int k, int i) { same("side", o -> o.side(k, i), m.side(k, i), k, i); }
    private void place(int k, int i, int axis) { same("place", o -> o.place(k, i, axis), m.place(k, i, axis), k, i, axis); }
    private void inside(int k, int i, int j) { same("inside", o -> o.inside(k, i, j), m.inside(k, i, j), k, i, j); }
    private void point(int g, int i, int j, int what) { same("point", o -> o.point(g, i, j, what), m.point(g, i, j, what), g, i, j, what); }
    private void count(int g, int what) { same("count", o -> o.count(g, what), m.count(g, what), g, what); }
    private void volume(int g, int mm, int what) { same("volume", o -> o.volume(g, mm, what), m.volume(g, mm, what), g, mm, what); }
    private void seen(int g, int i, int j, int i2, int j2, int eye) {
        same("seen", o -> o.seen(g, i, j, i2, j2, eye), m.seen(g, i, j, i2, j2, eye), g, i, j, i2, j2, eye);
    }
    private void smooth(int g, int to, int w) { change("smooth", o -> b(o.smooth(g, to, w)), b(m.smooth(g, to, w)), g, to, w); }
    private void difference(int g, int h, int to) { change("difference", o -> o.difference(g, h, to), m.difference(g, h, to), g, h, to); }

    private void levels() {
        m.levels();
        change("levels", o -> {
            o.levels();
            return 0;
        }, 0);
    }

    private int upTo(int most) { return dice.nextInt(most + 1); }

    /** Mostly within low .. high, now and then just outside, or far away. */
    private int about(int low, int high) {
        int kind = dice.nextInt(60);
        if (kind == 0) return low - 1;
        if (kind == 1) return high + 1;
        if (kind == 2) return dice.nextBoolean() ? Integer.MIN_VALUE : Integer.MAX_VALUE;
        if (kind == 3) return dice.nextInt();
        return low + dice.nextInt(high - low + 1);
    }

    /** Heights of few values make many that are alike; finer ones make uneven places. */
    private int someBits(int kind) {
        float f;
        switch (kind) {
            case 0: f = dice.nextInt(3); break;
            case 1: f = dice.nextInt(12) - 4; break;
            case 2: f = (dice.nextInt(20480) - 10240) / 1024f; break;
            case 3: f = (dice.nextInt(1 << 24) - (1 << 23)) / 1024f; break;
            case 4: f = dice.nextBoolean() ? 8192f : -8192f; break;
            case 5: return dice.nextInt();
            case 6: f = dice.nextInt(1 << 20) / 2048f; break;
            default: f = -0.0f; break;
        }
        return Float.floatToRawIntBits(f);
    }

    private void field(int g, int i0, int j0, int rows, int columns, int kind, int gaps) {
        for (int i = i0; i < i0 + rows; i++) {
            int shift = dice.nextInt(gaps > 0 ? 3 : 1);
            row(g, i, Math.min(columns, 40 - j0 - shift), j0 + shift);
            for (int j = j0; j < j0 + columns && j < 40; j++) {
                if (gaps == 0 || dice.nextInt(100) >= gaps) height(g, i, j, someBits(kind));
            }
        }
    }

    private void allLines(int most) {
        for (int k = -1; k <= Math.min(most, m.lines.size()); k++) {
            for (int what = -1; what <= 6; what++) line(k, what);
            int n = m.line(k, 1);
            for (int i = -1; i <= n; i++) {
                side(k, i);
                place(k, i, 0);
                place(k, i, 1);
            }
        }
    }

    private void allPoints(int g, int i0, int j0, int rows, int columns) {
        for (int i = i0 - 1; i <= i0 + rows; i++) {
            for (int j = j0 - 1; j <= j0 + columns; j++) {
                at(g, i, j);
                for (int what = -1; what <= 7; what++) point(g, i, j, what);
            }
        }
    }

    /** Hills and hollows that reach over several points, so that lines lie one around the other. */
    private void hills(int g, int i0, int j0, int rows, int columns) {
        int[][] tops = new int[2 + dice.nextInt(6)][];
        for (int k = 0; k < tops.length; k++) {
            tops[k] = new int[] {i0 + upTo(rows - 1), j0 + upTo(columns - 1), dice.nextInt(17) - 8, 1 + dice.nextInt(3)};
        }
        for (int i = i0; i < i0 + rows; i++) {
            row(g, i, columns, j0);
            for (int j = j0; j < j0 + columns; j++) {
                int h = 0;
                for (int[] t : tops) {
                    int far = t[3] * Math.max(Math.abs(i - t[0]), Math.abs(j - t[1]));
                    if (Math.abs(t[2]) > far) h += t[2] > 0 ? t[2] - far : t[2] + far;
                }
                if (dice.nextInt(60) > 0) height(g, i, j, Float.floatToRawIntBits(h + dice.nextInt(2) * dice.nextInt(3) / 2f));
            }
        }
    }

    private void spreadLevels(int low, int high) {
        TreeSet<Integer> chosen = new TreeSet<>();
        int many = 1 + dice.nextInt(16);
        for (int v = 0; v < many; v++) chosen.add(low + dice.nextInt(high - low + 1));
        for (int mm : chosen) level(mm);
        level(low);
    }

    private void fieldRun() {
        int rows = 3 + dice.nextInt(15);
        int columns = 3 + dice.nextInt(15);
        int i0 = dice.nextInt(32 - rows + 1);
        int j0 = dice.nextInt(40 - columns + 1);
        int kind = dice.nextInt(8);
        int[] top = {2, 7, 10, 8192, 12, 12, 12, 12};
        if (kind < 4) field(0, i0, j0, rows, columns, kind, dice.nextBoolean() ? 0 : dice.nextInt(25));
        else hills(0, i0, j0, rows, columns);
        if (dice.nextInt(4) == 0) smooth(0, 0, 1 + dice.nextInt(3));
        spacing(0, 1 + dice.nextInt(100000));
        spreadLevels(kind == 0 ? 0 : -top[kind], top[kind]);
        contour(0);
        allLines(60);
        for (int k = 0; k < m.lines.size() && k < 12; k++) {
            for (int i = i0 - 1; i <= i0 + rows; i++) {
                for (int j = j0 - 1; j <= j0 + columns; j++) inside(k, i, j);
            }
        }
        allPoints(0, i0, j0, rows, columns);
        for (int what = -1; what <= 6; what++) count(0, what);
        for (int n = 0; n < 20; n++) volume(0, about(-20, 20), about(0, 1));
        for (int n = 0; n < 200; n++) {
            int eye = dice.nextInt(4) == 0 ? about(0, 8192) : dice.nextInt(12);
            seen(0, i0 + upTo(rows - 1), j0 + upTo(columns - 1), i0 + upTo(rows - 1), j0 + upTo(columns - 1), eye);
        }
        smooth(0, dice.nextInt(2), dice.nextInt(5) == 0 ? about(1, 1000) : 1 + dice.nextInt(4));
        difference(dice.nextInt(2), dice.nextInt(2), dice.nextInt(3));
        for (int g = 0; g < 4; g++) {
            for (int i = i0; i < i0 + rows; i++) for (int j = j0; j < j0 + columns; j++) at(g, i, j);
            contour(g);
            allLines(3);
        }
    }

    private void mixedCall() {
        int g = about(0, 3);
        int i = about(0, 6);
        int j = about(0, 6);
        switch (dice.nextInt(24)) {
            case 0: spacing(g, dice.nextBoolean() ? about(1, 100000) : about(1, 9)); break;
            case 1: row(g, i, about(3, 7), dice.nextInt(8) == 0 ? about(33, 39) : about(0, 2)); break;
            case 2: missing(g, i, j); break;
            case 3: at(g, i, j); break;
            case 4: level(about(-10, 10)); break;
            case 5: if (dice.nextInt(4) == 0) levels(); break;
            case 6: contour(g); break;
            case 7: line(about(0, Math.max(1, m.lines.size() - 1)), about(0, 5)); break;
            case 8: side(about(0, Math.max(1, m.lines.size() - 1)), about(0, 6)); break;
            case 9: place(about(0, Math.max(1, m.lines.size() - 1)), about(0, 6), about(0, 1)); break;
            case 10: inside(about(0, Math.max(1, m.lines.size() - 1)), i, j); break;
            case 11: point(g, i, j, about(0, 6)); break;
            case 12: count(g, about(0, 5)); break;
            case 13: volume(g, about(-12, 12), about(0, 1)); break;
            case 14: seen(g, i, j, about(0, 6), about(0, 6), about(0, 10)); break;
            case 15: if (dice.nextInt(4) == 0) smooth(g, about(0, 3), about(1, 3)); break;
            case 16: if (dice.nextInt(4) == 0) difference(g, about(0, 3), about(0, 3)); break;
            default: height(g, i, j, someBits(dice.nextInt(8))); break;
        }
    }

    private void mixedRun() {
        for (int g = 0; g < 3; g++) for (int i = 0; i < 6; i++) row(g, i, 6, 0);
        for (int n = 0; n < 490; n++) mixedCall();
    }

    /** Up and down by turns: every side is crossed by all levels, and the most lines or sides are soon there. */
    private void crowdedRun(int rows, int columns, int period, int levelCount) {
        for (int i = 0; i < rows; i++) {
            row(0, i, columns, 0);
            for (int j = 0; j < columns; j++) {
                float f = (i + j) % period == 0 ? 100 + dice.nextInt(50) : -100 - dice.nextInt(50);
                height(0, i, j, Float.floatToRawIntBits(f));
            }
        }
        for (int v = 0; v < levelCount; v++) level(5 * v - 20);
        contour(0);
        int n = m.lines.size();
        for (int k : new int[] {0, 1, n / 2, n - 2, n - 1, n}) {
            for (int what = 0; what <= 5; what++) line(k, what);
            for (int i = 0; i <= m.line(k, 1); i++) side(k, i);
        }
    }

    public static void main(String[] args) {
        int calls = 0;
        for (int run = 0; run < 400; run++) {
            ModelTest t = new ModelTest("field " + run, 1000 + run);
            t.fieldRun();
            calls += t.calls;
        }
        for (int run = 0; run < 150; run++) {
            ModelTest t = new ModelTest("mixed " + run, 5000 + run);
            t.mixedRun();
            calls += t.calls;
        }
        int[][] crowds = {{21, 21, 2, 16}, {20, 22, 3, 16}, {32, 13, 2, 5}, {10, 40, 4, 12}, {3, 40, 2, 16}};
        for (int[] c : crowds) {
            ModelTest t = new ModelTest("crowded " + c[0] + " by " + c[1], c[2]);
            t.crowdedRun(c[0], c[1], c[2], c[3]);
            calls += t.calls;
        }
        System.out.println(calls + " calls, " + wrong + " not as the model");
        if (wrong != 0) System.exit(1);
    }
}
