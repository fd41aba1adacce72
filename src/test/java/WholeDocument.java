import java.util.ArrayDeque;
import java.util.ArrayList;
import java.util.Deque;
import java.util.List;
import java.util.Map;
import java.util.TreeMap;

/** What stands before the promises: what the class is, told as a whole, and its grids, which go through all calls. */
final class WholeDocument extends Boundary {
    private WholeDocument() { }

    @Says(promise = 0, words = "Contour sheets of grids of heights: rows of floats of their own lengths, with points that are missing")
    static void document_rowsOfFloatsOfTheirOwnLengths() {
        int[][] lengthAndOffset = {{3, 0}, {5, 2}, {1, 1}, {0, 0}, {1, 39}, {40, 0}};
        Sheets x = new Sheets();
        int there = 0;
        for (int i = 0; i < 6; i++) {
            due(x.row(0, i, lengthAndOffset[i][0], lengthAndOffset[i][1]), TRUE);
            for (int j = lengthAndOffset[i][1]; j < lengthAndOffset[i][1] + lengthAndOffset[i][0]; j++) {
                if ((i + j) % 7 == 5) continue;
                put(x, 0, i, j, i - j * UNIT);
                there++;
            }
        }
        due(x.count(0, 0), there);
        for (int i = 0; i < 7; i++) {
            for (int j = 0; j < 40; j++) {
                boolean is = i < 6 && j >= lengthAndOffset[i][1] && j < lengthAndOffset[i][1] + lengthAndOffset[i][0] && (i + j) % 7 != 5;
                due(x.at(0, i, j), is ? bits(i - j * UNIT) : NOT_THERE);
            }
        }
    }

    // ---- Lines: every one of a sheet is looked at from the outside, by its sides and places

    private static final String[] LAND = {
        "0000010012",
        "0333331001",
        "0366631000",
        "0360630.10",
        "0366630105",
        "0333310164",
        "0000013320",
        "2100.00111",
    };
    private static final int[] LEVELS = {1, 2, 4, 5};
    private static final State DRAWN = x -> {
        draw(x, 0, 3, 4, LAND);
        x.spacing(0, 250);
        for (int mm : LEVELS) x.level(mm);
        x.contour(0);
    };

    private static int landAt(int i, int j) {
        boolean within = i >= 3 && i < 3 + LAND.length && j >= 4 && j < 4 + LAND[0].length();
        return within && LAND[i - 3].charAt(j - 4) != '.' ? LAND[i - 3].charAt(j - 4) - '0' : NONE;
    }

    private static int landAt(int n) { return landAt(n / 40, n % 40); }
    private static int otherEnd(int side) { return side / 2 + (side % 2 == 0 ? 1 : 40); }
    private static int higherEnd(int side) { return landAt(side / 2) > landAt(otherEnd(side)) ? side / 2 : otherEnd(side); }

    private static boolean isWhole(int i, int j) {
        return landAt(i, j) != NONE && landAt(i, j + 1) != NONE && landAt(i + 1, j) != NONE && landAt(i + 1, j + 1) != NONE;
    }

    /** The whole cells to which a side belongs, by the numbers of their first corners. */
    private static List<Integer> cellsOf(int side) {
        int i = side / 2 / 40;
        int j = side / 2 % 40;
        List<Integer> cells = new ArrayList<>();
        if (isWhole(i, j)) cells.add(number(i, j));
        if (side % 2 == 0 ? isWhole(i - 1, j) : isWhole(i, j - 1)) cells.add(side % 2 == 0 ? number(i - 1, j) : number(i, j - 1));
        return cells;
    }

    private static int[] sidesOf(Sheets x, int k) {
        int[] sides = new int[(int) x.line(k, 1)];
        for (int i = 0; i < sides.length; i++) sides[i] = (int) x.side(k, i);
        return sides;
    }

    private static int lineCount() { return (int) made(DRAWN).contour(0); }

    @Says(promise = {0, 9, 10, 11}, words = {"lines of levels", "A line: SIDES one behind the other, each gone on from where there is more"})
    static void document_linesOfLevels() {
        // Each side of a whole cell that a level crosses is on one line of that level, and nothing else is on any.
        Map<Integer, Integer> onLines = new TreeMap<>();
        int lines = lineCount();
        due(lines > 10 ? 1 : 0, 1);
        for (int k = 0; k < lines; k++) {
            Sheets x = made(DRAWN);
            int v = (int) x.line(k, 0);
            for (int side : sidesOf(x, k)) onLines.merge(4 * side + v, 1, Integer::sum);
        }
        for (int side = 0; side < 2560; side++) {
            boolean bothThere = landAt(side / 2) != NONE && landAt(otherEnd(side)) != NONE && (side % 2 == 1 || side / 2 % 40 < 39);
            for (int v = 0; v < 4; v++) {
                boolean crossed = bothThere && landAt(side / 2) >= LEVELS[v] != landAt(otherEnd(side)) >= LEVELS[v];
                asked++;
                if (onLines.getOrDefault(4 * side + v, 0) != (crossed && !cellsOf(side).isEmpty() ? 1 : 0)) {
                    fault("side " + side + " is on " + onLines.getOrDefault(4 * side + v, 0) + " lines of level " + v);
                }
            }
        }
    }

    @Says(promise = {0, 12}, words = {"lines of levels", "The place of a SIDE on a line: a the height at its point, b at the other end, L the level (UNITS)"})
    static void document_placesAreAtTheLevel() {
        for (int k = 0; k < lineCount(); k++) {
            Sheets x = made(DRAWN);
            int level = LEVELS[(int) x.line(k, 0)];
            int[] sides = sidesOf(x, k);
            for (int i = 0; i < sides.length; i++) {
                double px = Double.longBitsToDouble(x.place(k, i, 0)) / 250;
                double py = Double.longBitsToDouble(x.place(k, i, 1)) / 250;
                double part = sides[i] % 2 == 0 ? px - sides[i] / 2 % 40 : py - sides[i] / 2 / 40;
                double height = landAt(sides[i] / 2) * (1 - part) + landAt(otherEnd(sides[i])) * part;
                double aside = sides[i] % 2 == 0 ? py - sides[i] / 2 / 40 : px - sides[i] / 2 % 40;
                asked++;
                if (part < 0 || part > 1 || aside != 0 || Math.abs(height - level) > 1e-9) fault("line " + k + ", side " + i + " is at " + px + ", " + py);
            }
        }
    }

    private static double[] middle(int side) {
        return side % 2 == 0 ? new double[] {side / 2 % 40 + 0.5, side / 2 / 40} : new double[] {side / 2 % 40, side / 2 / 40 + 0.5};
    }

    @Says(promise = {0, 9, 11}, words = {"lines turned with the higher ground on their left", "Two joined SIDES are gone through from the one to the other so that (their middles taken) the higher end of the first is on the left"})
    static void document_higherGroundOnTheLeft() {
        for (int k = 0; k < lineCount(); k++) {
            Sheets x = made(DRAWN);
            int[] sides = sidesOf(x, k);
            int pairs = x.line(k, 2) == 1 ? sides.length : sides.length - 1;
            for (int i = 0; i < pairs; i++) {
                double[] from = middle(sides[i]);
                double[] to = middle(sides[(i + 1) % sides.length]);
                int high = higherEnd(sides[i]);
                // Turned from x to y is to the left: x goes with columns, y with rows.
                double left = (to[0] - from[0]) * (high / 40 - from[1]) - (to[1] - from[1]) * (high % 40 - from[0]);
                asked++;
                if (left <= 0) fault("line " + k + " has the higher ground on its right at side " + i);
            }
        }
    }

    @Says(promise = {0, 10}, words = {"closed or from rim to rim", "one around the other"})
    static void document_closedOrFromRimToRim() {
        int closed = 0;
        int within = 0;
        int lines = lineCount();
        for (int k = 0; k < lines; k++) {
            Sheets x = made(DRAWN);
            int[] sides = sidesOf(x, k);
            int last = sides[sides.length - 1];
            for (int i = 0; i + 1 < sides.length; i++) due(haveACellInCommon(sides[i], sides[i + 1]), 1);
            if (x.line(k, 2) == 0) {
                due(cellsOf(sides[0]).size(), 1);
                due(cellsOf(last).size(), 1);
                continue;
            }
            closed++;
            due(haveACellInCommon(last, sides[0]), 1);
            int parent = (int) x.line(k, 3);
            if (parent == NONE) continue;
            within++;
            due(x.line(parent, 2), 1);
            for (int i = 3; i < 3 + LAND.length; i++) {
                for (int j = 4; j < 4 + LAND[0].length(); j++) if (x.inside(k, i, j) == 1) due(x.inside(parent, i, j), 1);
            }
        }
        due(closed > 4 && closed < lines && within > 2 ? 1 : 0, 1);
    }

    private static int haveACellInCommon(int a, int b) {
        for (int cell : cellsOf(a)) if (cellsOf(b).contains(cell)) return 1;
        return 0;
    }

    // ---- Water and the rest

    private static final int SIZE = 10;

    /** Rough ground of eleven heights, many of them alike. */
    private static int waterAt(int n) {
        int i = n / 40;
        int j = n % 40;
        return (7 * i + 5 * j * j + i * i * j) % 11;
    }

    private static boolean isIn(int i, int j) { return i >= 0 && i < SIZE && j >= 0 && j < SIZE; }

    private static List<Integer> near(int n) {
        List<Integer> all = new ArrayList<>();
        for (int i = n / 40 - 1; i <= n / 40 + 1; i++) {
            for (int j = n % 40 - 1; j <= n % 40 + 1; j++) if (isIn(i, j) && number(i, j) != n) all.add(number(i, j));
        }
        return all;
    }

    private static boolean comesToTheRim(int from, int most) {
        List<Integer> known = new ArrayList<>();
        Deque<Integer> open = new ArrayDeque<>();
        if (waterAt(from) <= most) open.add(from);
        while (!open.isEmpty()) {
            int at = open.remove();
            if (near(at).size() < 8) return true;
            for (int n : near(at)) {
                if (waterAt(n) > most || known.contains(n)) continue;
                known.add(n);
                open.add(n);
            }
        }
        return false;
    }

    @Says(promise = {0, 14}, words = {"water: the steepest way down, pits filled to where they spill, basins, streams", "A point's water goes to the NEIGHBOUR that is lower by the steepest"})
    static void document_water() {
        Sheets x = new Sheets();
        for (int i = 0; i < SIZE; i++) x.row(0, i, SIZE, 0);
        for (int n = 0; n < SIZE * SIZE; n++) put(x, 0, n / SIZE, n % SIZE, waterAt(number(n / SIZE, n % SIZE)));
        Map<Integer, Integer> down = new TreeMap<>();
        Map<Integer, Integer> stream = new TreeMap<>();
        Map<Integer, Integer> through = new TreeMap<>();
        int ponds = 0;
        for (int i = 0; i < SIZE; i++) {
            for (int j = 0; j < SIZE; j++) {
                int n = number(i, j);
                down.put(n, (int) x.point(0, i, j, 0));
                steepest(n, down.get(n));
                stream.put(n, (int) x.point(0, i, j, 2));
                int filled = (int) x.point(0, i, j, 3);
                due(filled % 1024, 0);
                if (filled > 1024 * waterAt(n)) ponds++;
                due(comesToTheRim(n, filled / 1024) ? 1 : 0, 1);
                due(comesToTheRim(n, filled / 1024 - 1) ? 1 : 0, 0);
            }
        }
        for (int n : down.keySet()) {
            int at = n;
            for (int to = n; to != NONE; to = down.get(to)) {
                at = to;
                through.merge(to, 1, Integer::sum);
            }
            due(x.point(0, n / 40, n % 40, 1), at);
        }
        for (int n : stream.keySet()) due(stream.get(n), through.get(n));
        due(ponds > 3 ? 1 : 0, 1);
    }

    private static void steepest(int n, int to) {
        int best = NONE;
        int most = 0;
        for (int m : near(n)) {
            int fall = waterAt(n) - waterAt(m);
            int square = fall * fall * (m / 40 == n / 40 || m % 40 == n % 40 ? 2 : 1);
            if (fall > 0 && square > most) {
                best = m;
                most = square;
            }
        }
        due(to, best);
    }

    @Says(promise = {0, 14}, words = {"summits, passes and how far a summit stands above the saddles", "The SADDLE of a point all of whose NEIGHBOURS are BELOW"})
    static void document_summitsPassesAndSaddles() {
        Sheets x = sheet("000000000", "009430000", "000006250", "000000700", "000000000");
        due(x.point(0, 1, 2, 4), 1);
        due(x.point(0, 3, 6, 4), 1);
        // From 7 up to 9 one must go down to 3: it stands 4 above that saddle.
        due(x.point(0, 3, 6, 5), 3 * 1024);
        due(x.point(0, 1, 2, 5), NO_SADDLE);
        due(x.point(0, 1, 4, 4), 3);
        due(x.point(0, 1, 4, 5), NO_SADDLE);
        due(x.count(0, 3), 2);
        // Sunk by a unit, the pass is as much lower, and the summit stands as much higher above it.
        put(x, 0, 1, 4, 3 - UNIT);
        due(x.point(0, 3, 6, 5), 3 * 1024 - 1);
    }

    @Says(promise = {0, 16, 17, 18, 19}, words = "what is seen from where; volumes; smoothing")
    static void document_sightVolumesAndSmoothing() {
        Sheets x = sheet("0000", "0800", "0000");
        due(x.seen(0, 1, 0, 1, 3, 0), 0);
        due(x.seen(0, 1, 0, 1, 3, 12), 1);
        due(x.seen(0, 1, 3, 1, 0, 12), 0);
        due(x.seen(0, 1, 3, 1, 0, 24), 1);
        due(x.volume(0, 1, 0), 4 * 4 * 1024);
        due(x.volume(0, 1, 1), 2 * 4 * 1024);
        due(x.smooth(0, 1, 4), TRUE);
        due(x.at(1, 1, 1), bits(4));
        due(x.at(1, 0, 1), bits(Math.rint(8192 / 7.0) / 1024));
        due(x.at(1, 1, 2), bits(1));
        due(x.at(1, 0, 0), 0);
        due(x.difference(0, 1, 2), 0);
        due(x.at(2, 1, 1), bits(4));
        due(x.at(2, 1, 2), bits(-1));
    }

    @Says(promise = 0, words = "what later calls answer is free")
    static void document_laterCallsAnswerToo() {
        // Whatever they answer, they end and throw nothing.
        ContourSheets x = new ContourSheets();
        int calls = 0;
        for (int n = 0; n < 1500; n++) {
            x.row(n % 5, n % 33, n % 41, n % 7);
            x.height(n % 5, n % 33, n % 13, bits(n % 17));
            x.level(n % 300);
            if (n % 50 == 0) x.contour(n % 4);
            x.line(n % 500, n % 7);
            x.point(n % 4, n % 33, n % 13, n % 8);
            x.smooth(n % 4, n / 4 % 4, n % 1001);
            if (n % 100 == 0) x.levels();
            calls += 6;
        }
        due(calls, 9000);
    }

    private static void allCallsOf(Sheets x, int g, boolean there) {
        long yes = there ? TRUE : FALSE;
        due(x.row(g, 5, 1, 6), yes);
        due(x.height(g, 5, 6, bits(7)), yes);
        due(x.at(g, 5, 6), there ? bits(7) : NOT_THERE);
        due(x.point(g, 5, 6, 1), there ? number(5, 6) : NO_ANSWER);
        due(x.seen(g, 5, 6, 5, 6, 0), there ? 1 : NONE);
        due(x.count(g, 0), there ? 1 : NONE);
        due(x.volume(g, 0, 0), there ? 0 : NONE);
        due(x.contour(g), there ? 0 : NONE);
        due(x.spacing(g, 5), yes);
        due(x.smooth(g, 0, 1), yes);
        due(x.smooth(0, g, 1), yes);
        due(x.difference(g, 0, 0), there ? 0 : NONE);
        due(x.difference(0, g, 0), there ? 0 : NONE);
        due(x.difference(0, 0, g), there ? 0 : NONE);
        due(x.missing(g, 5, 6), yes);
        due(x.missing(g, 5, 6), FALSE);
    }

    @Says(promise = {0, 2, 3, 4, 5, 6, 9, 14, 15, 16, 17, 18, 19}, words = "GRIDS 0 .. 3: ROWS 0 .. 31")
    static void document_fourGridsForAllCalls() {
        for (int g = 0; g < 4; g++) allCallsOf(new Sheets(), g, true);
        for (int g : NO_GRID) allCallsOf(new Sheets(), g, false);
        for (int g = 0; g < 4; g++) {
            Sheets x = new Sheets();
            for (int i = 0; i < 32; i++) due(x.row(g, i, 1, i), TRUE);
            for (int i : NO_ROW) due(x.row(g, i, 1, 0), FALSE);
        }
    }
}
