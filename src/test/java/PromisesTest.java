/** Each promise of the document by answers worked out by hand: ordinary ones, edges, and wrong inputs. */
public final class PromisesTest {
    private static final int NOT_THERE = 2147483647;
    private static final int NO_SADDLE = -8388609;
    private static final int NO_ANSWER = -8388610;
    private static final int[] WRONG = {-1, 4, Integer.MIN_VALUE, Integer.MAX_VALUE};
    private static int wrong = 0;
    private static int asked = 0;

    private static void due(int promise, String call, long got, long want) {
        asked++;
        if (got != want) {
            wrong++;
            System.out.println("promise " + promise + ": " + call + " answered " + got + ", due is " + want);
        }
    }

    private static void due(int promise, String call, boolean got, boolean want) {
        due(promise, call, got ? 1L : 0L, want ? 1L : 0L);
    }

    private static int bits(double value) { return Float.floatToRawIntBits((float) value); }
    private static long place(double value) { return Double.doubleToRawLongBits(value); }

    /** A grid from texts: a sign for each point, a digit for its height, a point for one that is missing. */
    private static ContourSheets sheet(String... rows) {
        ContourSheets x = new ContourSheets();
        draw(x, 0, 1.0, rows);
        return x;
    }

    private static void draw(ContourSheets x, int g, double times, String... rows) {
        for (int i = 0; i < rows.length; i++) {
            x.row(g, i, rows[i].length(), 0);
            for (int j = 0; j < rows[i].length(); j++) {
                char c = rows[i].charAt(j);
                if (c != '.') x.height(g, i, j, bits(times * (c - '0')));
            }
        }
    }

    private static void sides(int promise, ContourSheets x, int k, int... want) {
        due(promise, "line(" + k + ", 1)", x.line(k, 1), want.length);
        for (int i = 0; i < want.length; i++) due(promise, "side(" + k + ", " + i + ")", x.side(k, i), want[i]);
        due(promise, "side behind the last", x.side(k, want.length), -1);
    }

    private static void noLines(ContourSheets x) {
        int[] some = {Integer.MIN_VALUE, -1, 0, 1, 399, 400, Integer.MAX_VALUE};
        for (int k : some) {
            for (int what = -1; what <= 6; what++) due(10, "line before any contour", x.line(k, what), -1);
            for (int i : some) {
                due(11, "side before any contour", x.side(k, i), -1);
                due(12, "x before any contour", x.place(k, i, 0), 0);
                due(12, "y before any contour", x.place(k, i, 1), 0);
                due(13, "inside before any contour", x.inside(k, i, 0), -1);
            }
        }
    }

    private static void fresh() {
        ContourSheets x = new ContourSheets();
        for (int g = 0; g < 4; g++) {
            for (int what = 0; what <= 5; what++) due(1, "count of a new grid", x.count(g, what), 0);
            due(1, "height without a row", x.height(g, 0, 0, 0), false);
            due(1, "at", x.at(g, 0, 0), NOT_THERE);
            due(1, "volume", x.volume(g, -8192, 0), 0);
        }
        noLines(new ContourSheets());
        ContourSheets y = new ContourSheets();
        for (int g : WRONG) due(9, "no such grid before any contour", y.contour(g), -1);
        noLines(y);
        draw(x, 0, 1, "00", "09");
        due(1, "no levels at first", x.contour(0), 0);
        x.level(1);
        x.contour(0);
        due(1, "spacing 1000 at first", x.place(0, 0, 1), place(1000));
        due(1, "NONE", ContourSheets.NONE, -1);
    }

    private static void spacing() {
        ContourSheets x = sheet("00", "09");
        x.level(3);
        due(2, "least spacing", x.spacing(0, 1), true);
        x.contour(0);
        due(2, "x by spacing 1", x.place(0, 0, 0), place(3.0 / 9));
        due(2, "greatest spacing", x.spacing(0, 100000), true);
        due(2, "spacing 0", x.spacing(0, 0), false);
        due(2, "spacing 100001", x.spacing(0, 100001), false);
        due(2, "spacing -5", x.spacing(0, -5), false);
        for (int g : WRONG) due(2, "no such grid", x.spacing(g, 7), false);
        due(2, "another grid", x.spacing(3, 7), true);
        x.contour(0);
        due(2, "nothing changed by the wrong ones", x.place(0, 0, 1), place(100000));
    }

    private static void row() {
        ContourSheets x = new ContourSheets();
        due(3, "whole row", x.row(0, 31, 40, 0), true);
        due(3, "last column", x.row(0, 0, 1, 39), true);
        due(3, "height in the last column", x.height(0, 0, 39, 0), true);
        due(3, "height before it", x.height(0, 0, 38, 0), false);
        due(3, "length 0 at 39", x.row(0, 1, 0, 39), true);
        due(3, "length 0 at 40", x.row(0, 1, 0, 40), false);
        due(3, "length 41", x.row(0, 1, 41, 0), false);
        due(3, "length 2 at 39", x.row(0, 1, 2, 39), false);
        due(3, "length -1", x.row(0, 1, -1, 5), false);
        due(3, "offset -1", x.row(0, 1, 5, -1), false);
        due(3, "sum beyond ints", x.row(0, 1, Integer.MAX_VALUE, 39), false);
        due(3, "no row -1", x.row(0, -1, 5, 0), false);
        due(3, "no row 32", x.row(0, 32, 5, 0), false);
        for (int g : WRONG) due(3, "no such grid", x.row(g, 0, 5, 0), false);
        due(3, "a wrong call leaves the row", x.row(0, 0, 5, 38), false);
        due(3, "its point is there", x.at(0, 0, 39), 0);
        due(3, "same row again", x.row(0, 0, 1, 39), true);
        due(3, "its points are missing", x.at(0, 0, 39), NOT_THERE);
    }

    private static void height() {
        ContourSheets x = new ContourSheets();
        x.row(1, 2, 3, 4);
        double[] good = {0, 1, -1, 8192, -8192, 1 / 1024.0, -1 / 1024.0, 8191 + 1023 / 1024.0, 0.5, 4096.25, -3.75, 1023 / 1024.0};
        for (double v : good) {
            due(4, "height " + v, x.height(1, 2, 5, bits(v)), true);
            due(6, "at of " + v, x.at(1, 2, 5), bits(v));
        }
        due(4, "-0", x.height(1, 2, 5, bits(-0.0)), true);
        due(6, "-0 is 0", x.at(1, 2, 5), 0);
        x.height(1, 2, 5, bits(7));
        double[] bad = {8192.001, 8193, -8193, 16384, 1 / 2048.0, 3 / 2048.0, 1e-30, 1e30, 0.1, 1 + 1 / 2048.0,
            Double.NaN, Double.POSITIVE_INFINITY, Double.NEGATIVE_INFINITY, Float.MIN_VALUE, -Float.MIN_VALUE};
        for (double v : bad) due(4, "height " + v, x.height(1, 2, 5, bits(v)), false);
        due(4, "all bits", x.height(1, 2, 5, -1), false);
        due(4, "nothing changed", x.at(1, 2, 5), bits(7));
        due(4, "before the row", x.height(1, 2, 3, 0), false);
        due(4, "first of the row", x.height(1, 2, 4, 0), true);
        due(4, "last of the row", x.height(1, 2, 6, 0), true);
        due(4, "behind the row", x.height(1, 2, 7, 0), false);
        for (int g : WRONG) due(4, "no such grid", x.height(g, 2, 5, 0), false);
        for (int i : new int[] {-1, 32, Integer.MIN_VALUE, Integer.MAX_VALUE}) {
            due(4, "no such row", x.height(1, i, 5, 0), false);
            due(4, "no such column", x.height(1, 2, i, 0), false);
        }
    }

    private static void missingAndAt() {
        ContourSheets x = sheet("12", "34");
        due(5, "missing", x.missing(0, 1, 0), true);
        due(5, "missing again", x.missing(0, 1, 0), false);
        due(6, "at a missing one", x.at(0, 1, 0), NOT_THERE);
        due(6, "the others stay", x.at(0, 1, 1), bits(4));
        due(5, "height again", x.height(0, 1, 0, bits(9)), true);
        due(6, "there again", x.at(0, 1, 0), bits(9));
        for (int g : WRONG) {
            due(5, "no such grid", x.missing(g, 0, 0), false);
            due(6, "no such grid", x.at(g, 0, 0), NOT_THERE);
        }
        for (int i : new int[] {-1, 2, 32, 40, Integer.MIN_VALUE, Integer.MAX_VALUE}) {
            due(5, "no such row", x.missing(0, i, 0), false);
            due(5, "no such column", x.missing(0, 0, i), false);
            due(6, "no such row", x.at(0, i, 0), NOT_THERE);
            due(6, "no such column", x.at(0, 0, i), NOT_THERE);
        }
        due(6, "a column beyond is no point of the next row", x.at(0, 0, 40), NOT_THERE);
    }

    private static void levels() {
        ContourSheets x = new ContourSheets();
        due(7, "level -8193", x.level(-8193), -1);
        due(7, "level -8192", x.level(-8192), 1);
        due(7, "the same again", x.level(-8192), -1);
        for (int v = 1; v < 15; v++) due(7, "level", x.level(v), v + 1);
        due(7, "level 8193", x.level(8193), -1);
        due(7, "a lower one", x.level(13), -1);
        due(7, "level 8192", x.level(8192), 16);
        x.levels();
        due(8, "after levels any may come", x.level(-5), 1);
        due(8, "and the next", x.level(-4), 2);
        x.levels();
        for (int v = 0; v < 16; v++) due(7, "level", x.level(v), v + 1);
        due(7, "a seventeenth", x.level(100), -1);
        due(7, "the least int", x.level(Integer.MIN_VALUE), -1);
        ContourSheets y = sheet("00", "09");
        y.level(3);
        y.contour(0);
        y.levels();
        due(8, "lines stay without levels", y.line(0, 1), 2);
        due(8, "and their places", y.place(0, 0, 0), place(1000 * 3.0 / 9));
        due(8, "no lines by no levels", y.contour(0), 0);
    }

    private static void contour() {
        ContourSheets x = sheet("0000", "0990", "0000");
        x.level(5);
        due(9, "contour", x.contour(0), 1);
        for (int g : WRONG) due(9, "no such grid", x.contour(g), -1);
        due(9, "former lines stay", x.line(0, 1), 6);
        due(9, "another grid without points", x.contour(1), 0);
        due(9, "former lines are gone", x.line(0, 1), -1);
        // One end at the level itself is as high; both ends at it are not crossed.
        ContourSheets flat = sheet("55", "55");
        flat.level(5);
        due(9, "flat at the level", flat.contour(0), 0);
        flat.height(0, 0, 0, bits(5 - 1 / 1024.0));
        due(9, "one unit less", flat.contour(0), 1);
        // A side that is crossed but in no whole cell is no line.
        ContourSheets bare = sheet("09");
        bare.level(5);
        due(9, "a single row", bare.contour(0), 0);
        ContourSheets corner = sheet("0.", "99");
        corner.level(5);
        due(9, "three points", corner.contour(0), 0);
    }

    private static void joins() {
        ContourSheets even = sheet("90", "09");
        even.height(0, 0, 0, bits(10));
        even.height(0, 1, 1, bits(10));
        even.level(5);
        due(9, "four sides, the sum just enough", even.contour(0), 2);
        sides(11, even, 0, 0, 3);
        sides(11, even, 1, 80, 1);
        even.height(0, 0, 0, bits(10 - 1 / 1024.0));
        due(9, "four sides, one unit too little", even.contour(0), 2);
        sides(11, even, 0, 0, 1);
        sides(11, even, 1, 80, 3);
        ContourSheets turned = sheet("09", "90");
        turned.level(4);
        due(9, "the other corners", turned.contour(0), 2);
        sides(11, turned, 0, 1, 0);
        sides(11, turned, 1, 3, 80);
        turned.levels();
        turned.level(5);
        turned.contour(0);
        sides(11, turned, 0, 1, 80);
        sides(11, turned, 1, 3, 0);
    }

    private static void order() {
        // The level's open lines by their first sides, then the closed ones, then the next level.
        ContourSheets x = sheet("900000", "000000", "000900", "000000", "900000");
        x.level(3);
        x.level(6);
        due(9, "lines of two levels", x.contour(0), 6);
        sides(11, x, 0, 0, 1);
        sides(11, x, 1, 241, 320);
        sides(11, x, 2, 2 * 43 + 1, 2 * 83, 2 * 83 + 1, 2 * 82);
        for (int k = 0; k < 6; k++) {
            due(10, "level of line " + k, x.line(k, 0), k / 3);
            due(10, "closed, line " + k, x.line(k, 2), k % 3 == 2 ? 1 : 0);
        }
        due(10, "line 6", x.line(6, 0), -1);
        due(10, "line -1", x.line(-1, 0), -1);
        due(10, "what 6", x.line(0, 6), -1);
        due(10, "what -1", x.line(0, -1), -1);
        due(11, "side -1", x.side(0, -1), -1);
        due(11, "side of line -1", x.side(-1, 0), -1);
        due(11, "side of line 6", x.side(6, 0), -1);
        due(11, "far side", x.side(0, Integer.MAX_VALUE), -1);
    }

    private static void limits() {
        // 40 hills by 10 levels are just 400 lines; an eleventh level has no room, nor has any behind it.
        ContourSheets x = new ContourSheets();
        for (int i = 0; i < 17; i++) {
            x.row(0, i, 11, 0);
            for (int j = 0; j < 11; j++) x.height(0, i, j, i % 2 == 1 && j % 2 == 1 ? bits(100) : 0);
        }
        for (int v = 1; v <= 10; v++) x.level(v);
        due(9, "400 lines", x.contour(0), 400);
        due(9, "the last one's level", x.line(399, 0), 9);
        x.level(11);
        due(9, "no more", x.contour(0), 400);
        due(9, "line 400", x.line(400, 0), -1);
        // Up and down by turns, the cells' sums too: 39 lines aslant with 799 sides a level, 7990 by ten levels.
        ContourSheets y = new ContourSheets();
        for (int i = 0; i < 20; i++) {
            y.row(0, i, 21, 0);
            for (int j = 0; j < 21; j++) {
                y.height(0, i, j, bits((i + j) % 2 == 0 ? 4000 + 24 * (i - 10) * (j - 10) : -4000 - 24 * (i - 10) * (j - 10)));
            }
        }
        for (int v = 0; v < 10; v++) y.level(v - 5);
        due(9, "7990 sides", y.contour(0), 390);
        for (int i = 30; i < 32; i++) {
            y.row(0, i, 2, 0);
            for (int j = 0; j < 2; j++) y.height(0, i, j, bits(-8000));
        }
        // A corner apart, crossed by five levels with two sides each: all have just room.
        y.height(0, 31, 1, bits(-1));
        due(9, "just 8000 sides", y.contour(0), 395);
        due(9, "the last of the fifth level", y.line(199, 1), 2);
        // A sixth time it is one line more, and the last of all has no room.
        y.height(0, 31, 1, bits(0));
        due(9, "8002 sides", y.contour(0), 395);
        due(9, "the last of the sixth level", y.line(239, 1), 2);
        due(9, "the last one's level", y.line(394, 0), 9);
    }

    private static void places() {
        ContourSheets x = sheet("00000", "00000", "00000", "00000", "00000");
        x.height(0, 2, 2, bits(10));
        x.level(4);
        x.contour(0);
        sides(11, x, 0, 85, 164, 165, 162);
        double[][] want = {{2000, 1400}, {2600, 2000}, {2000, 2600}, {1400, 2000}};
        for (int i = 0; i < 4; i++) {
            due(12, "x of side " + i, x.place(0, i, 0), place(want[i][0]));
            due(12, "y of side " + i, x.place(0, i, 1), place(want[i][1]));
        }
        x.spacing(0, 7);
        x.height(0, 2, 2, bits(5));
        x.row(0, 1, 0, 0);
        due(12, "as the grid was", x.place(0, 0, 1), place(1400));
        due(12, "axis 2", x.place(0, 0, 2), 0);
        due(12, "axis -1", x.place(0, 0, -1), 0);
        due(12, "side 4", x.place(0, 4, 0), 0);
        due(12, "side -1", x.place(0, -1, 0), 0);
        due(12, "line 1", x.place(1, 0, 0), 0);
        due(12, "line -1", x.place(-1, 0, 0), 0);
        // At the level's own height the place is the point: 0 without a sign.
        ContourSheets zero = sheet("50", "00");
        zero.level(5);
        zero.contour(0);
        due(12, "x at the point itself", zero.place(0, 0, 0), 0);
        due(12, "y at the point itself", zero.place(0, 1, 1), 0);
        ContourSheets third = sheet("03", "03");
        third.level(1);
        third.level(2);
        third.spacing(0, 1);
        third.contour(0);
        due(12, "a third, rounded down", third.place(0, 0, 0), 0x3FD5555555555555L);
        due(12, "two thirds, rounded down too", third.place(1, 0, 0), 0x3FE5555555555555L);
        third.spacing(0, 5);
        third.contour(0);
        due(12, "five thirds, rounded up", third.place(0, 0, 0), 0x3FFAAAAAAAAAAAABL);
        ContourSheets tiny = sheet("00", "00");
        tiny.height(0, 0, 0, bits(-8192));
        tiny.height(0, 1, 0, bits(-8192));
        tiny.height(0, 0, 1, bits(8192));
        tiny.height(0, 1, 1, bits(8191 + 1023 / 1024.0));
        tiny.level(-8191);
        tiny.spacing(0, 99999);
        tiny.contour(0);
        due(12, "the greatest rise", tiny.place(0, 1, 0), place(99999 * 1024.0 / 16777216));
        due(12, "one unit less", tiny.place(0, 0, 0), place(99999 * 1024.0 / 16777215));
    }

    private static void nested() {
        ContourSheets x = sheet("00000", "09990", "09090", "09990", "00000");
        x.level(2);
        x.level(5);
        x.level(8);
        due(9, "six lines", x.contour(0), 6);
        int[] parents = {-1, 3, 0, 5, 2, 4};
        for (int k = 0; k < 6; k++) {
            due(10, "parent of " + k, x.line(k, 3), parents[k]);
            due(10, "points inside " + k, x.line(k, 4), k % 2 == 0 ? 9 : 1);
            due(10, "higher ground inside " + k, x.line(k, 5), k % 2 == 0 ? 1 : 0);
            due(13, "the middle inside " + k, x.inside(k, 2, 2), 1);
            due(13, "the ring inside " + k, x.inside(k, 1, 1), k % 2 == 0 ? 1 : 0);
            due(13, "behind the ring " + k, x.inside(k, 2, 4), 0);
        }
        x.row(0, 2, 0, 0);
        due(13, "as the grid was", x.inside(0, 2, 2), 1);
        due(13, "no point of a row", x.inside(0, 31, 39), 0);
        due(13, "row 32", x.inside(0, 32, 0), -1);
        due(13, "row -1", x.inside(0, -1, 0), -1);
        due(13, "column 40", x.inside(0, 0, 40), -1);
        due(13, "column -1", x.inside(0, 0, -1), -1);
        due(13, "line 6", x.inside(6, 0, 0), -1);
        due(13, "line -1", x.inside(-1, 0, 0), -1);
        // A point that is missing within a closed line is not inside it.
        ContourSheets hole = sheet("00000", "09990", "09.90", "09990", "00000");
        hole.level(5);
        due(9, "around a hole", hole.contour(0), 1);
        due(10, "points inside", hole.line(0, 4), 8);
        due(13, "the hole", hole.inside(0, 2, 2), 0);
        due(13, "beside the hole", hole.inside(0, 2, 3), 1);
        ContourSheets pit = sheet("555", "505", "555");
        pit.level(5);
        pit.contour(0);
        sides(11, pit, 0, 3, 80, 83, 82);
        due(10, "what is at the level is the higher ground", pit.line(0, 5), 0);
        ContourSheets open = sheet("00", "09");
        open.level(5);
        open.contour(0);
        due(13, "not closed", open.inside(0, 1, 1), -1);
        for (int what = 3; what <= 5; what++) due(10, "not closed, " + what, open.line(0, what), -1);
    }

    private static void water() {
        // From the middle (5): beside by 1 and aslant by sqrt 2 are told apart by the squares.
        ContourSheets x = sheet("555", "554", "553");
        due(14, "aslant 2, beside 1: 4 by 2 is more", x.point(0, 1, 1, 0), 82);
        due(14, "a pit leads nowhere", x.point(0, 2, 2, 0), -1);
        due(14, "its basin is itself", x.point(0, 2, 2, 1), 82);
        due(14, "basin", x.point(0, 0, 1, 1), 82);
        due(14, "a level corner is a pit", x.point(0, 0, 0, 0), -1);
        due(14, "stream", x.point(0, 2, 2, 2), 6);
        due(14, "stream of the side", x.point(0, 1, 2, 2), 3);
        ContourSheets like = sheet("444", "454", "444");
        due(14, "of like ones the least, beside", like.point(0, 1, 1, 0), 1);
        like.height(0, 0, 0, bits(3.5));
        due(14, "9 by 4 by 2 is more than 1", like.point(0, 1, 1, 0), 0);
        // 7 by 5 is just below the root of 2, so beside wins with it; 3 by 2 is above.
        ContourSheets near = sheet("000", "090", "000");
        for (int n = 0; n < 9; n++) near.height(0, n / 3, n % 3, bits(9));
        near.height(0, 1, 1, bits(10));
        near.height(0, 0, 1, bits(5));
        near.height(0, 2, 2, bits(3));
        due(14, "5 beside, 7 aslant", near.point(0, 1, 1, 0), 1);
        near.height(0, 2, 2, bits(2));
        due(14, "5 beside, 8 aslant", near.point(0, 1, 1, 0), 82);
        due(14, "neighbours of the middle", near.point(0, 1, 1, 6), 8);
        due(14, "of a corner", near.point(0, 0, 0, 6), 3);
        due(14, "of a side", near.point(0, 0, 1, 6), 5);
        ContourSheets unit = sheet("55", "55");
        unit.height(0, 1, 1, bits(5 - 1 / 1024.0));
        due(14, "one unit aslant", unit.point(0, 0, 0, 0), 41);
        due(14, "one unit beside", unit.point(0, 1, 0, 0), 41);
        due(15, "and all others run off", unit.count(0, 2), 1);
        ContourSheets one = sheet("7");
        int[] alone = {-1, 0, 1, 7 * 1024, 0, NO_SADDLE, 0};
        for (int what = 0; what <= 6; what++) due(14, "one point, " + what, one.point(0, 0, 0, what), alone[what]);
        due(14, "what 7", one.point(0, 0, 0, 7), NO_ANSWER);
        due(14, "what -1", one.point(0, 0, 0, -1), NO_ANSWER);
        due(14, "not there", one.point(0, 0, 1, 0), NO_ANSWER);
        due(14, "row -1", one.point(0, -1, 0, 0), NO_ANSWER);
        due(14, "column 40", one.point(0, 0, 40, 0), NO_ANSWER);
        for (int g : WRONG) due(14, "no such grid", one.point(g, 0, 0, 0), NO_ANSWER);
    }

    private static void floods() {
        ContourSheets bowl = sheet("99999", "91239", "95159", "93139", "97699");
        due(14, "filled to where it spills", bowl.point(0, 1, 1, 3), 6 * 1024);
        due(14, "under the middle", bowl.point(0, 2, 2, 3), 6 * 1024);
        due(14, "at the spill", bowl.point(0, 4, 2, 3), 6 * 1024);
        due(14, "the rim is its own", bowl.point(0, 4, 1, 3), 7 * 1024);
        due(14, "a missing neighbour makes a rim", bowl.missing(0, 2, 2), true);
        due(14, "and the water runs off there", bowl.point(0, 1, 1, 3), 1024);
        ContourSheets range = sheet("0000000", "0800060", "0022030", "0000000");
        due(14, "saddle of the lower summit", range.point(0, 1, 5, 5), 0);
        range.height(0, 2, 4, bits(2.5));
        due(14, "saddle over 2", range.point(0, 1, 5, 5), 2048);
        due(14, "the highest has none", range.point(0, 1, 1, 5), NO_SADDLE);
        due(14, "no peak", range.point(0, 2, 2, 5), NO_SADDLE);
        ContourSheets alike = sheet("00000", "08080", "00000");
        due(14, "of alike ones the greater number is above", alike.point(0, 1, 1, 5), 0);
        due(14, "so that has none", alike.point(0, 1, 3, 5), NO_SADDLE);
        ContourSheets rim = sheet("50306");
        due(14, "a peak at the rim", rim.point(0, 0, 0, 5), 0);
        due(14, "a peak between", rim.point(0, 0, 2, 5), 0);
        ContourSheets apart = sheet("5.6");
        due(14, "no way to the higher one", apart.point(0, 0, 0, 5), NO_SADDLE);
        ContourSheets low = sheet("000");
        low.height(0, 0, 1, bits(-8192));
        due(14, "the lowest saddle", low.point(0, 0, 0, 5), -8388608);
    }

    private static void kinds() {
        ContourSheets x = sheet("000", "090", "000");
        due(14, "summit", x.point(0, 1, 1, 4), 1);
        due(15, "summits", x.count(0, 3), 1);
        due(15, "pits: all at the rim", x.count(0, 2), 8);
        x = sheet("999", "909", "999");
        due(14, "pit with all above", x.point(0, 1, 1, 4), 2);
        due(15, "pits", x.count(0, 2), 1);
        x = sheet("555", "555", "555");
        due(14, "level ground by numbers is neither", x.point(0, 1, 1, 4), 0);
        due(15, "all nine are pits", x.count(0, 2), 9);
        x = sheet("959", "555", "959");
        due(14, "a pass of four turns or more", x.point(0, 1, 1, 4), 3);
        due(15, "passes", x.count(0, 4), 1);
        x = sheet("999", "555", "000");
        due(14, "a slope", x.point(0, 1, 1, 4), 0);
        x = sheet("559", "555", "555");
        due(14, "two turns", x.point(0, 1, 1, 4), 0);
        x = sheet("55.", "595", "555");
        due(14, "no summit with seven", x.point(0, 1, 1, 4), 0);
        due(15, "points", x.count(0, 0), 8);
        due(15, "whole cells", x.count(0, 1), 3);
        due(15, "rim", x.count(0, 5), 8);
        due(15, "no summits", x.count(0, 3), 0);
        x = sheet("5555", "5555", "5555", "5555");
        due(15, "points", x.count(0, 0), 16);
        due(15, "whole cells", x.count(0, 1), 9);
        due(15, "rim", x.count(0, 5), 12);
        due(15, "what 6", x.count(0, 6), -1);
        due(15, "what -1", x.count(0, -1), -1);
        for (int g : WRONG) due(15, "no such grid", x.count(g, 0), -1);
    }

    private static void volume() {
        ContourSheets x = sheet("123", "456", "7.9");
        // Cells: 1+2+4+5 = 12 and 2+3+5+6 = 16; the others are not whole.
        due(16, "cut at 0", x.volume(0, 0, 0), 28 * 1024);
        due(16, "fill at 0", x.volume(0, 0, 1), 0);
        due(16, "cut at 3: 0 and 4", x.volume(0, 3, 0), 4 * 1024);
        due(16, "fill at 4: 4 and 0", x.volume(0, 4, 1), 4 * 1024);
        due(16, "cut at 4", x.volume(0, 4, 0), 0);
        due(16, "cut at -8192", x.volume(0, -8192, 0), 1024L * (28 + 8 * 8192));
        due(16, "fill at 8192", x.volume(0, 8192, 1), 1024L * (8 * 8192 - 28));
        due(16, "8193", x.volume(0, 8193, 0), -1);
        due(16, "-8193", x.volume(0, -8193, 0), -1);
        due(16, "what 2", x.volume(0, 0, 2), -1);
        due(16, "what -1", x.volume(0, 0, -1), -1);
        for (int g : WRONG) due(16, "no such grid", x.volume(g, 0, 0), -1);
        // More than an int holds: 273 cells of which each is 8192 * 1024 * 8 below.
        ContourSheets deep = new ContourSheets();
        for (int i = 0; i < 14; i++) {
            deep.row(0, i, 22, 0);
            for (int j = 0; j < 22; j++) deep.height(0, i, j, bits(-8192));
        }
        due(16, "a long", deep.volume(0, 8192, 1), 273L * 8 * 8192 * 1024);
    }

    private static void seen() {
        ContourSheets x = sheet("00500", "00000", "00000");
        due(17, "hidden", x.seen(0, 0, 0, 0, 4, 9), 0);
        due(17, "just over it", x.seen(0, 0, 0, 0, 4, 10), 1);
        due(17, "back again", x.seen(0, 0, 4, 0, 0, 9), 0);
        due(17, "onto it", x.seen(0, 0, 0, 0, 2, 0), 1);
        due(17, "from it", x.seen(0, 0, 2, 0, 4, 0), 1);
        due(17, "oneself", x.seen(0, 0, 2, 0, 2, 0), 1);
        due(17, "the neighbour", x.seen(0, 0, 1, 0, 2, 0), 1);
        // From (0, 0) to (1, 4): at column 2 half way between 5 and 0, the line at half its height.
        due(17, "aslant, hidden", x.seen(0, 0, 0, 1, 4, 4), 0);
        due(17, "aslant, seen", x.seen(0, 0, 0, 1, 4, 5), 1);
        x.missing(0, 1, 2);
        due(17, "no ground where one is missing", x.seen(0, 0, 0, 1, 4, 0), 1);
        due(17, "but on the point itself there is", x.seen(0, 0, 0, 0, 4, 9), 0);
        x.missing(0, 0, 2);
        due(17, "nor where none is", x.seen(0, 0, 0, 0, 4, 0), 1);
        ContourSheets steep = sheet("00", "00", "60", "00", "00");
        // From (0, 0) to (4, 1): at row 2 half of 6 is 3.
        due(17, "by rows, hidden", steep.seen(0, 0, 0, 4, 1, 5), 0);
        due(17, "by rows, seen", steep.seen(0, 0, 0, 4, 1, 6), 1);
        due(17, "by rows, back", steep.seen(0, 4, 1, 0, 0, 5), 0);
        due(17, "not there", steep.seen(0, 0, 0, 5, 0, 0), -1);
        due(17, "from what is not there", steep.seen(0, 0, 2, 0, 0, 0), -1);
        due(17, "eye -1", steep.seen(0, 0, 0, 1, 1, -1), -1);
        due(17, "eye 8193", steep.seen(0, 0, 0, 1, 1, 8193), -1);
        due(17, "eye 8192", steep.seen(0, 0, 0, 4, 0, 8192), 1);
        for (int g : WRONG) due(17, "no such grid", steep.seen(g, 0, 0, 1, 1, 0), -1);
    }

    private static void smooth() {
        ContourSheets x = sheet("000", "080", "00.");
        x.spacing(0, 77);
        x.row(0, 5, 2, 9);
        x.row(1, 20, 40, 0);
        x.height(1, 20, 20, 0);
        due(18, "smooth", x.smooth(0, 1, 4), true);
        due(18, "the middle: 32 by 8", x.at(1, 1, 1), bits(4));
        due(18, "beside it: 8 by 4 + 3", x.at(1, 0, 1), bits(Math.rint(8 * 1024 / 7.0) / 1024));
        due(18, "aslant: 0", x.at(1, 0, 0), 0);
        due(18, "missing stays", x.at(1, 2, 2), NOT_THERE);
        due(18, "what was there before is gone", x.at(1, 20, 20), NOT_THERE);
        due(18, "rows as the other's", x.height(1, 20, 20, 0), false);
        due(18, "empty rows too", x.height(1, 5, 10, 0), true);
        due(18, "the first grid is as it was", x.at(0, 1, 1), bits(8));
        x.level(3);
        x.contour(1);
        due(18, "spacing too", x.place(0, 0, 0), place(77));
        due(18, "onto itself", x.smooth(0, 0, 4), true);
        due(18, "all at once", x.at(0, 0, 1), x.at(1, 0, 1));
        due(18, "all at once, behind", x.at(0, 2, 1), bits(Math.rint(8 * 1024 / 6.0) / 1024));
        int[][] halves = {{1, 0}, {3, 2}, {5, 2}, {7, 4}, {-1, 0}, {-3, -2}, {-5, -2}};
        for (int[] h : halves) {
            ContourSheets y = sheet("00");
            y.height(0, 0, 1, bits(h[0] / 1024.0));
            y.smooth(0, 0, 1);
            due(18, "a half of " + h[0], y.at(0, 0, 0), bits(h[1] / 1024.0));
        }
        due(18, "weight 0", x.smooth(0, 1, 0), false);
        due(18, "weight 1001", x.smooth(0, 1, 1001), false);
        due(18, "weight 1000", x.smooth(2, 3, 1000), true);
        for (int g : WRONG) {
            due(18, "no such grid", x.smooth(g, 1, 1), false);
            due(18, "to no such grid", x.smooth(0, g, 1), false);
        }
        due(18, "nothing changed", x.at(1, 1, 1), bits(4));
    }

    private static void difference() {
        ContourSheets x = new ContourSheets();
        draw(x, 0, 1, "987", "65");
        draw(x, 1, 1, "1.3", "489", "123");
        x.spacing(0, 55);
        due(19, "difference", x.difference(0, 1, 2), 0);
        due(19, "9 - 1", x.at(2, 0, 0), bits(8));
        due(19, "one is missing", x.at(2, 0, 1), NOT_THERE);
        due(19, "5 - 8", x.at(2, 1, 1), bits(-3));
        due(19, "rows as the first one's", x.height(2, 1, 2, 0), false);
        due(19, "rows as the first one's", x.height(2, 0, 1, 0), true);
        x.level(2);
        x.contour(2);
        due(19, "one line", x.line(0, 1), 2);
        due(19, "spacing as the first one's", x.place(0, 1, 0), place(0));
        due(19, "spacing as the first one's", x.place(0, 0, 1) == place(55) || x.place(0, 1, 1) == place(55), true);
        due(19, "onto the second", x.difference(0, 1, 1), 0);
        due(19, "5 - 8 there", x.at(1, 1, 1), bits(-3));
        due(19, "its third row is gone", x.at(1, 2, 0), NOT_THERE);
        due(19, "with itself", x.difference(0, 0, 0), 0);
        due(19, "9 - 9", x.at(0, 0, 0), 0);
        draw(x, 0, 8192, "1110");
        draw(x, 1, -8192, "1010");
        x.height(1, 0, 1, bits(-1 / 1024.0));
        due(19, "two beyond", x.difference(0, 1, 3), 2 + 1);
        due(19, "beyond is missing", x.at(3, 0, 0), NOT_THERE);
        due(19, "just beyond is missing", x.at(3, 0, 1), NOT_THERE);
        due(19, "just within", x.at(3, 0, 3), bits(0));
        x.height(1, 0, 1, bits(0));
        due(19, "at the top", x.difference(0, 1, 3), 2);
        due(19, "8192 - 0", x.at(3, 0, 1), bits(8192));
        for (int g : WRONG) {
            due(19, "no such grid", x.difference(g, 0, 1), -1);
            due(19, "no such grid", x.difference(0, g, 1), -1);
            due(19, "no such grid", x.difference(0, 0, g), -1);
        }
        due(19, "nothing changed", x.at(3, 0, 1), bits(8192));
    }

    public static void main(String[] args) {
        fresh();
        spacing();
        row();
        height();
        missingAndAt();
        levels();
        contour();
        joins();
        order();
        limits();
        places();
        nested();
        water();
        floods();
        kinds();
        volume();
        seen();
        smooth();
        difference();
        System.out.println(asked + " answers, " + wrong + " not as due");
        if (wrong != 0) System.exit(1);
    }
}
