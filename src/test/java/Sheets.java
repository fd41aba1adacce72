/**
 * An object of the class under test that counts its calls: nothing is promised about an object after its
 * 512th call, so a test that asks more of one is itself at fault. A boolean answer is 1 or 0.
 */
final class Sheets {
    static final int MOST_CALLS = 512;
    private static String lastName = "";
    private static int[] lastArguments = {};

    private final ContourSheets x = new ContourSheets();
    private int calls = 0;

    int left() { return MOST_CALLS - calls; }

    static String lastCall() {
        StringBuilder text = new StringBuilder(lastName).append('(');
        for (int k = 0; k < lastArguments.length; k++) text.append(k == 0 ? "" : ", ").append(lastArguments[k]);
        return text.append(')').toString();
    }

    private void note(String name, int... arguments) {
        lastName = name;
        lastArguments = arguments;
        calls++;
        if (calls > MOST_CALLS) throw new IllegalStateException("the test asks more than " + MOST_CALLS + " calls of an object");
    }

    private static long of(boolean answer) { return answer ? 1 : 0; }

    long spacing(int g, int mm) { note("spacing", g, mm); return of(x.spacing(g, mm)); }
    long row(int g, int i, int length, int offset) { note("row", g, i, length, offset); return of(x.row(g, i, length, offset)); }
    long height(int g, int i, int j, int bits) { note("height", g, i, j, bits); return of(x.height(g, i, j, bits)); }
    long missing(int g, int i, int j) { note("missing", g, i, j); return of(x.missing(g, i, j)); }
    long at(int g, int i, int j) { note("at", g, i, j); return x.at(g, i, j); }
    long level(int mm) { note("level", mm); return x.level(mm); }
    long levels() { note("levels"); x.levels(); return 0; }
    long contour(int g) { note("contour", g); return x.contour(g); }
    long line(int k, int what) { note("line", k, what); return x.line(k, what); }
    long side(int k, int i) { note("side", k, i); return x.side(k, i); }
    long place(int k, int i, int axis) { note("place", k, i, axis); return x.place(k, i, axis); }
    long inside(int k, int i, int j) { note("inside", k, i, j); return x.inside(k, i, j); }
    long point(int g, int i, int j, int what) { note("point", g, i, j, what); return x.point(g, i, j, what); }
    long count(int g, int what) { note("count", g, what); return x.count(g, what); }
    long volume(int g, int mm, int what) { note("volume", g, mm, what); return x.volume(g, mm, what); }
    long seen(int g, int i, int j, int i2, int j2, int eye) { note("seen", g, i, j, i2, j2, eye); return x.seen(g, i, j, i2, j2, eye); }
    long smooth(int g, int to, int weight) { note("smooth", g, to, weight); return of(x.smooth(g, to, weight)); }
    long difference(int g, int h, int to) { note("difference", g, h, to); return x.difference(g, h, to); }
}
