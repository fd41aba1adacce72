import java.lang.annotation.ElementType;
import java.lang.annotation.Retention;
import java.lang.annotation.RetentionPolicy;
import java.lang.annotation.Target;
import java.util.ArrayList;
import java.util.HashMap;
import java.util.List;
import java.util.Map;

/** What the tests of the boundary cases share: how they are marked, what they draw, and how a refusal is looked at. */
abstract class Boundary {
    /** The words of the document that a test holds, and the promises under whose heading (or under "Terms") they stand. */
    @Retention(RetentionPolicy.RUNTIME)
    @Target(ElementType.METHOD)
    @interface Says {
        int[] promise();
        String[] words();
    }

    interface Call { long on(Sheets x); }
    interface State { void make(Sheets x); }

    static final int TRUE = 1;
    static final int FALSE = 0;
    static final int NONE = -1;
    static final int NOT_THERE = 2147483647;
    static final int NO_SADDLE = -8388609;
    static final int NO_ANSWER = -8388610;
    static final int MIN = Integer.MIN_VALUE;
    static final int MAX = Integer.MAX_VALUE;
    static final int TOP = 8192 * 1024;
    static final double UNIT = 1 / 1024.0;

    /** The first ones beyond either end, and those that lie farthest away. */
    static final int[] NO_GRID = {-1, 4, MIN, MAX};
    static final int[] NO_ROW = {-1, 32, MIN, MAX};
    static final int[] NO_COLUMN = {-1, 40, MIN, MAX};

    static String running = "";
    static int asked = 0;
    static int wrong = 0;

    static void fault(String text) {
        wrong++;
        if (wrong <= 40) System.out.println(running + ": " + text);
    }

    static void due(long got, long want) {
        asked++;
        if (got != want) fault(Sheets.lastCall() + " answered " + got + ", due is " + want);
    }

    static int bits(double value) { return Float.floatToRawIntBits((float) value); }
    static long place(double value) { return Double.doubleToRawLongBits(value); }
    static int number(int i, int j) { return 40 * i + j; }

    static void put(Sheets x, int g, int i, int j, double value) { due(x.height(g, i, j, bits(value)), TRUE); }

    /** Rows from texts, the first point of the first one at (i0, j0): a digit is a height, a point is a missing one. */
    static void draw(Sheets x, int g, int i0, int j0, String... rows) {
        for (int i = 0; i < rows.length; i++) {
            x.row(g, i0 + i, rows[i].length(), j0);
            for (int j = 0; j < rows[i].length(); j++) {
                char c = rows[i].charAt(j);
                if (c != '.') x.height(g, i0 + i, j0 + j, bits(c - '0'));
            }
        }
    }

    static Sheets sheet(String... rows) {
        Sheets x = new Sheets();
        draw(x, 0, 0, 0, rows);
        return x;
    }

    /** All points of rows by columns from (0, 0) on at one height. */
    static void plain(Sheets x, int g, int rows, int columns, double value) {
        for (int i = 0; i < rows; i++) {
            x.row(g, i, columns, 0);
            for (int j = 0; j < columns; j++) x.height(g, i, j, bits(value));
        }
    }

    static void sidesDue(Sheets x, int k, int... want) {
        due(x.line(k, 1), want.length);
        due(x.side(k, -1), NONE);
        for (int i = 0; i < want.length; i++) due(x.side(k, i), want[i]);
        due(x.side(k, want.length), NONE);
    }

    static Sheets made(State state) {
        Sheets x = new Sheets();
        state.make(x);
        return x;
    }

    static final State NEW = x -> { };

    /** Four grids of their own, one at the far corner; lines of grid 0 as it was before its middle sank. */
    static final State USED = x -> {
        draw(x, 0, 0, 0, "00000", "09990", "09090", "09990", "00000");
        draw(x, 1, 1, 2, "1234", "5.67", "8998");
        draw(x, 2, 0, 0, "12", "34");
        draw(x, 3, 30, 37, "070", "394");
        x.row(3, 4, 0, 39);
        x.row(2, 7, 5, 20);
        x.spacing(0, 77);
        x.spacing(3, 100000);
        x.level(2);
        x.level(5);
        x.contour(0);
        x.height(0, 2, 2, bits(-3));
        x.missing(0, 1, 1);
    };

    /** 16 levels and 400 lines: as many as there may be; the 26th hill's lines at the last level are left out. */
    static final State FULL = x -> {
        plain(x, 0, 11, 11, 0);
        for (int n = 0; n < 25; n++) x.height(0, 2 * (n / 5) + 1, 2 * (n % 5) + 1, bits(100));
        draw(x, 0, 20, 30, "000", "010", "000");
        draw(x, 3, 0, 0, "09", "00");
        for (int mm = 1; mm <= 16; mm++) x.level(mm);
        x.contour(0);
    };

    private static final State[] STATES = {NEW, USED, FULL};
    private static final Map<State, long[]> SHOWN = new HashMap<>();
    private static final Call NOTHING = x -> 0;

    /** The call answers so, and changes nothing that later calls show: on a new object, a used one and a full one. */
    static void refused(long want, Call call) {
        for (State state : STATES) refusedIn(state, want, call);
    }

    static void refusedIn(State state, long want, Call call) {
        Sheets x = made(state);
        due(call.on(x), want);
        changesNothing(state, call);
    }

    static void changesNothing(State state, Call call) {
        call.on(made(state));
        String name = Sheets.lastCall();
        long[] before = SHOWN.computeIfAbsent(state, s -> shown(s, NOTHING));
        long[] after = shown(state, call);
        asked++;
        for (int n = 0; n < before.length; n++) {
            if (before[n] != after[n]) {
                fault(name + " changed what later calls show, answer " + n + ": " + before[n] + " became " + after[n]);
                return;
            }
        }
    }

    static void linesStay(State state, Call call) {
        call.on(made(state));
        String name = Sheets.lastCall();
        List<List<Call>> part = List.of(PARTS.get(0));
        asked++;
        if (!java.util.Arrays.equals(shown(state, NOTHING, part), shown(state, call, part))) fault(name + " changed the lines");
    }

    static long[] shown(State state, Call call) { return shown(state, call, PARTS); }

    /** All that calls show of an object in a state, after one more call; each part on as many objects as it needs. */
    private static long[] shown(State state, Call call, List<List<Call>> parts) {
        List<Long> answers = new ArrayList<>();
        for (List<Call> part : parts) {
            Sheets x = null;
            for (Call ask : part) {
                if (x == null || x.left() == 0) {
                    x = made(state);
                    call.on(x);
                }
                answers.add(ask.on(x));
            }
        }
        return answers.stream().mapToLong(Long::longValue).toArray();
    }

    private static final List<List<Call>> PARTS = parts();

    private static List<List<Call>> parts() {
        List<List<Call>> all = new ArrayList<>();
        all.add(linesPart());
        all.add(pointsPart());
        all.add(rowsPart());
        for (int g = 0; g < 4; g++) all.add(spacingPart(g));
        all.add(List.of(x -> x.level(8192)));
        all.add(levelsPart());
        return all;
    }

    private static List<Call> linesPart() {
        List<Call> part = new ArrayList<>();
        for (int k : new int[] {0, 1, 2, 3, 4, 200, 398, 399, 400}) {
            for (int what = 0; what <= 5; what++) { int w = what; part.add(x -> x.line(k, w)); }
            for (int side = 0; side <= 12; side++) {
                int s = side;
                part.add(x -> x.side(k, s));
                part.add(x -> x.place(k, s, 0));
                part.add(x -> x.place(k, s, 1));
            }
            for (int n = 0; n < 36; n++) { int p = n; part.add(x -> x.inside(k, p / 6, p % 6)); }
        }
        return part;
    }

    private static List<Call> pointsPart() {
        List<Call> part = new ArrayList<>();
        for (int grid = 0; grid < 4; grid++) {
            int g = grid;
            for (int what = 0; what <= 5; what++) { int w = what; part.add(x -> x.count(g, w)); }
            for (int n = 0; n < 1280; n++) { int p = n; part.add(x -> x.at(g, p / 40, p % 40)); }
        }
        return part;
    }

    /** A row's length and offset are shown by where it takes heights. */
    private static List<Call> rowsPart() {
        List<Call> part = new ArrayList<>();
        for (int n = 0; n < 4 * 1280; n++) { int p = n; part.add(x -> x.height(p / 1280, p / 40 % 32, p % 40, 0)); }
        return part;
    }

    private static List<Call> spacingPart(int g) {
        List<Call> part = new ArrayList<>();
        for (int row = 0; row < 32; row++) { int i = row; part.add(x -> x.row(g, i, i < 2 ? 2 : 0, 0)); }
        for (int n = 0; n < 4; n++) { int p = n; part.add(x -> x.height(g, p / 2, p % 2, bits(p == 3 ? 9 : 0))); }
        part.add(Sheets::levels);
        part.add(x -> x.level(3));
        part.add(x -> x.contour(g));
        for (int n = 0; n < 4; n++) { int p = n; part.add(x -> x.place(0, p / 2, p % 2)); }
        return part;
    }

    /** One cell from the lowest to the highest height: each level is shown by the place of its line. */
    private static List<Call> levelsPart() {
        List<Call> part = new ArrayList<>();
        for (int row = 0; row < 32; row++) { int i = row; part.add(x -> x.row(0, i, i < 2 ? 2 : 0, 0)); }
        for (int n = 0; n < 4; n++) { int p = n; part.add(x -> x.height(0, p / 2, p % 2, bits(p % 2 == 1 ? 8192 : -8192))); }
        part.add(x -> x.contour(0));
        for (int line = 0; line <= 16; line++) {
            int k = line;
            part.add(x -> x.line(k, 0));
            part.add(x -> x.place(k, 0, 0));
        }
        return part;
    }
}
