/** Promises 1 to 6: a new object, spacing, row, height, missing, at. */
final class GridBoundaries extends Boundary {
    private GridBoundaries() { }

    // ---- Promise 1: a new object

    @Says(promise = 1, words = {"All grids empty", "(at first LENGTH 0)", "it is THERE, or MISSING (at first so)"})
    static void promise01_allGridsEmpty() {
        for (int g = 0; g < 4; g++) {
            Sheets x = new Sheets();
            for (int what = 0; what <= 5; what++) due(x.count(g, what), 0);
            for (int what = 0; what <= 6; what++) due(x.point(g, 0, 0, what), NO_ANSWER);
            for (int what = 0; what <= 1; what++) due(x.volume(g, 0, what), 0);
            due(x.seen(g, 0, 0, 0, 0, 0), NONE);
            due(x.missing(g, 0, 0), FALSE);
            due(x.missing(g, 31, 39), FALSE);
            for (int i = 0; i < 32; i++) {
                due(x.at(g, i, 0), NOT_THERE);
                due(x.at(g, i, 39), NOT_THERE);
                due(x.height(g, i, 0, 0), FALSE);
                due(x.height(g, i, 20, 0), FALSE);
                due(x.height(g, i, 39, 0), FALSE);
            }
            due(x.count(g, 0), 0);
        }
    }

    @Says(promise = {1, 2}, words = {"SPACING 1000", "SPACING 1 .. 100000 (at first 1000)"})
    static void promise01_spacing1000() {
        for (int g = 0; g < 4; g++) {
            Sheets x = new Sheets();
            draw(x, g, 0, 0, "00", "09");
            x.level(3);
            due(x.contour(g), 1);
            due(x.place(0, 0, 0), place(1000 * 3 / 9.0));
            due(x.place(0, 0, 1), place(1000));
        }
    }

    @Says(promise = 1, words = "no LEVELS")
    static void promise01_noLevels() {
        Sheets x = sheet("00", "09");
        due(x.contour(0), 0);
        due(x.level(-8192), 1);
        Sheets y = sheet("00", "09");
        due(y.level(8192), 1);
    }

    @Says(promise = {1, 10, 11, 12, 13}, words = "no lines")
    static void promise01_noLines() {
        Sheets x = new Sheets();
        for (int k : new int[] {MIN, -1, 0, 1, 399, 400, MAX}) {
            for (int what = -1; what <= 6; what++) due(x.line(k, what), NONE);
            for (int i : new int[] {MIN, -1, 0, 1, 7999, 8000, MAX}) {
                due(x.side(k, i), NONE);
                due(x.place(k, i, 0), 0);
                due(x.place(k, i, 1), 0);
                due(x.inside(k, i, 0), NONE);
                due(x.inside(k, 0, i), NONE);
            }
        }
    }

    @Says(promise = 1, words = "All grids empty, SPACING 1000, no LEVELS, no lines")
    static void promise01_aNewObjectKnowsNothingOfAnother() {
        long[] before = shown(NEW, x -> 0);
        made(USED);
        made(FULL);
        long[] after = shown(NEW, x -> 0);
        due(java.util.Arrays.equals(before, after) ? 1 : 0, 1);
    }

    @Says(promise = 1, words = "An object is used for at most 512 calls after it has been made")
    static void promise01_upToThe512thCall() {
        Sheets x = made(FULL);
        for (int n = x.left(); n > 4; n--) due(x.level(n), NONE);
        due(x.contour(0), 400);
        due(x.line(399, 0), 15);
        due(x.height(0, 0, 0, bits(8192)), TRUE);
        due(x.at(0, 0, 0), bits(8192));
        due(x.left(), 0);
    }

    @Says(promise = 1, words = "The constants: `NONE = -1`: None.")
    static void promise01_constantNone() {
        due(ContourSheets.NONE, -1);
    }

    // ---- Promise 2: spacing

    private static Sheets spaced(int g, int mm) {
        Sheets x = new Sheets();
        draw(x, g, 0, 0, "00", "09");
        x.level(3);
        due(x.spacing(g, mm), TRUE);
        x.contour(g);
        return x;
    }

    @Says(promise = 2, words = {"A grid's SPACING: true", "SPACING 1 .. 100000"})
    static void promise02_leastAndGreatestSpacing() {
        for (int g = 0; g < 4; g++) {
            for (int mm : new int[] {1, 2, 99999, 100000}) {
                Sheets x = spaced(g, mm);
                due(x.place(0, 0, 0), place(mm * 3 / 9.0));
                due(x.place(0, 0, 1), place(mm));
                due(x.place(0, 1, 0), place(mm));
                due(x.place(0, 1, 1), place(mm * 3 / 9.0));
            }
        }
    }

    @Says(promise = 2, words = "A grid's SPACING: true")
    static void promise02_ofThatGridAlone() {
        Sheets x = new Sheets();
        x.level(3);
        for (int g = 0; g < 4; g++) draw(x, g, 0, 0, "00", "09");
        due(x.spacing(0, 1), TRUE);
        due(x.spacing(3, 100000), TRUE);
        int[] want = {1, 1000, 1000, 100000};
        for (int g = 0; g < 4; g++) {
            x.contour(g);
            due(x.place(0, 0, 1), place(want[g]));
        }
    }

    @Says(promise = 2, words = "False, changing nothing, for no such grid, or SPACING")
    static void promise02_noSuchGrid() {
        for (int g : NO_GRID) {
            refused(FALSE, x -> x.spacing(g, 1));
            refused(FALSE, x -> x.spacing(g, 100000));
        }
    }

    @Says(promise = 2, words = "False, changing nothing, for no such grid, or SPACING")
    static void promise02_noSuchSpacing() {
        for (int mm : new int[] {0, 100001, -1, -1000, MIN, MAX}) {
            refused(FALSE, x -> x.spacing(0, mm));
            refused(FALSE, x -> x.spacing(3, mm));
            refused(FALSE, x -> x.spacing(4, mm));
        }
    }

    // ---- Promise 3: row

    @Says(promise = {3, 4}, words = {"A row gets LENGTH and OFFSET", "ROWS 0 .. 31, each with an OFFSET and a LENGTH: its points are in columns OFFSET .. OFFSET + LENGTH - 1, all within 0 .. 39"})
    static void promise03_columnsFromOffsetToItsEnd() {
        int[][] shapes = {{40, 0}, {39, 0}, {39, 1}, {1, 0}, {1, 39}, {2, 38}, {20, 20}, {3, 4}};
        for (int g : new int[] {0, 3}) {
            for (int i : new int[] {0, 31}) {
                for (int[] s : shapes) {
                    Sheets x = new Sheets();
                    due(x.row(g, i, s[0], s[1]), TRUE);
                    for (int j = -1; j <= 40; j++) due(x.height(g, i, j, 0), j >= s[1] && j < s[1] + s[0] ? TRUE : FALSE);
                    due(x.count(g, 0), s[0]);
                }
            }
        }
    }

    @Says(promise = 3, words = {"all its points MISSING: true", "it is THERE, or MISSING (at first so)"})
    static void promise03_allItsPointsMissing() {
        Sheets x = new Sheets();
        x.row(0, 31, 40, 0);
        for (int j = 0; j < 40; j++) due(x.at(0, 31, j), NOT_THERE);
        for (int j = 0; j < 40; j++) put(x, 0, 31, j, j);
        due(x.count(0, 0), 40);
        due(x.row(0, 31, 40, 0), TRUE);
        for (int j = 0; j < 40; j++) due(x.at(0, 31, j), NOT_THERE);
        due(x.count(0, 0), 0);
        for (int j = 0; j < 40; j++) put(x, 0, 31, j, j);
        due(x.row(0, 31, 38, 1), TRUE);
        due(x.count(0, 0), 0);
        due(x.row(0, 31, 40, 0), TRUE);
        due(x.count(0, 0), 0);
    }

    @Says(promise = 3, words = "A row gets LENGTH and OFFSET")
    static void promise03_thatRowOfThatGridAlone() {
        Sheets x = new Sheets();
        for (int g = 0; g < 2; g++) for (int i = 0; i < 3; i++) x.row(g, i, 40, 0);
        for (int g = 0; g < 2; g++) {
            for (int i = 0; i < 3; i++) {
                put(x, g, i, 0, 1);
                put(x, g, i, 39, 2);
            }
        }
        due(x.row(0, 1, 0, 39), TRUE);
        for (int g = 0; g < 2; g++) {
            for (int i = 0; i < 3; i++) {
                boolean gone = g == 0 && i == 1;
                due(x.at(g, i, 0), gone ? NOT_THERE : bits(1));
                due(x.at(g, i, 39), gone ? NOT_THERE : bits(2));
            }
        }
    }

    @Says(promise = 3, words = "False, changing nothing, for no such grid, row, or columns")
    static void promise03_noSuchGrid() {
        for (int g : NO_GRID) {
            refused(FALSE, x -> x.row(g, 0, 1, 0));
            refused(FALSE, x -> x.row(g, 31, 40, 0));
        }
    }

    @Says(promise = 3, words = "False, changing nothing, for no such grid, row, or columns")
    static void promise03_noSuchRow() {
        for (int i : NO_ROW) {
            refused(FALSE, x -> x.row(0, i, 1, 0));
            refused(FALSE, x -> x.row(3, i, 0, 39));
        }
    }

    @Says(promise = 3, words = "False, changing nothing, for no such grid, row, or columns")
    static void promise03_noSuchColumns() {
        int[][] shapes = {{-1, 0}, {-1, 1}, {-1, 39}, {41, 0}, {40, 1}, {2, 39}, {21, 20}, {1, 40}, {1, -1}, {2, -1}, {40, -1}, {MIN, 0}, {MAX, 0}};
        for (int[] s : shapes) {
            refused(FALSE, x -> x.row(0, 0, s[0], s[1]));
            refused(FALSE, x -> x.row(3, 31, s[0], s[1]));
        }
    }

    @Says(promise = 3, words = "all within 0 .. 39")
    static void promise03_columnsThatWrapAround() {
        int[][] shapes = {{MAX, 39}, {MAX, 1}, {1, MAX}, {MAX, MAX}, {MIN, MIN}, {MIN, 39}, {0, MIN}, {2, MAX}, {MAX, MIN}, {MIN, MAX}};
        for (int[] s : shapes) refused(FALSE, x -> x.row(0, 1, s[0], s[1]));
    }

    @Says(promise = 3, words = "for no such grid, row, or columns")
    static void promise03_lastLengthOfEachOffset() {
        Sheets x = new Sheets();
        for (int offset = 0; offset < 40; offset++) {
            due(x.row(0, 5, 41 - offset, offset), FALSE);
            due(x.row(0, 5, 40 - offset, offset), TRUE);
            due(x.height(0, 5, 39, 0), TRUE);
            due(x.height(0, 5, offset, 0), TRUE);
            due(x.height(0, 5, offset - 1, 0), FALSE);
            due(x.row(0, 5, 41 - offset, offset), FALSE);
            due(x.at(0, 5, 39), 0);
        }
    }

    @Says(promise = 3, words = "(LENGTH 0 too has an OFFSET 0 .. 39)")
    static void promise03_offsetOfLength0() {
        for (int offset : new int[] {0, 1, 38, 39}) {
            Sheets x = sheet("12", "34");
            due(x.row(0, 1, 0, offset), TRUE);
            for (int j = -1; j <= 40; j++) due(x.height(0, 1, j, 0), FALSE);
            due(x.at(0, 1, 0), NOT_THERE);
            due(x.count(0, 0), 2);
        }
        for (int offset : new int[] {-1, 40, 41, MIN, MAX}) {
            refused(FALSE, x -> x.row(0, 1, 0, offset));
            refused(FALSE, x -> x.row(3, 31, 0, offset));
        }
    }

    // ---- Promise 4: height

    @Says(promise = {4, 6}, words = {"A point's height becomes the float with these bits: true", "HEIGHTS are floats that are whole multiples of 1/1024, from -8192 to 8192"})
    static void promise04_lowestAndHighest() {
        Sheets x = new Sheets();
        x.row(0, 0, 1, 0);
        double[] good = {8192, -8192, 8192 - UNIT, UNIT - 8192, UNIT, -UNIT, 2 * UNIT, 0, 4096 + UNIT, -4096 - UNIT, 1023 * UNIT, 1 - UNIT, 1 + UNIT};
        for (double v : good) {
            due(x.height(0, 0, 0, bits(v)), TRUE);
            due(x.at(0, 0, 0), bits(v));
            due(x.point(0, 0, 0, 3), (long) (v * 1024));
        }
    }

    @Says(promise = {4, 6}, words = "(-0 is 0)")
    static void promise04_minusZeroIsZero() {
        Sheets x = new Sheets();
        x.row(0, 0, 2, 0);
        due(x.height(0, 0, 0, MIN), TRUE);
        due(x.at(0, 0, 0), 0);
        due(x.point(0, 0, 0, 3), 0);
        due(x.height(0, 0, 1, 0), TRUE);
        due(x.point(0, 0, 1, 0), NONE);
        due(x.point(0, 0, 0, 5), NO_SADDLE);
    }

    @Says(promise = 4, words = {"False, changing nothing: no such grid, point of its rows, or such a height", "from -8192 to 8192"})
    static void promise04_tooHighOrTooLow() {
        for (int b : new int[] {bits(8192) + 1, bits(-8192) + 1, bits(8193), bits(-8193), bits(16384), bits(-16384), bits(1e30), bits(-1e30),
            Float.floatToRawIntBits(Float.MAX_VALUE), Float.floatToRawIntBits(-Float.MAX_VALUE)}) {
            refused(FALSE, x -> x.height(0, 1, 1, b));
        }
    }

    @Says(promise = 4, words = {"False, changing nothing: no such grid, point of its rows, or such a height", "whole multiples of 1/1024"})
    static void promise04_noWholeMultiple() {
        double half = UNIT / 2;
        for (double v : new double[] {half, -half, 3 * half, 8192 - half, half - 8192, 4096 + half, 1 + half, 0.1, 1e-30}) {
            refused(FALSE, x -> x.height(0, 1, 1, bits(v)));
        }
        for (int b : new int[] {bits(UNIT) + 1, bits(UNIT) - 1, bits(1) + 1, bits(1) - 1, bits(-1) + 1, bits(4096) - 1, 1, MIN + 1, 0x007fffff, 0x00800000}) {
            refused(FALSE, x -> x.height(0, 1, 1, b));
        }
    }

    @Says(promise = 4, words = "or such a height")
    static void promise04_noNumber() {
        for (int b : new int[] {0x7f800000, 0xff800000, 0x7fc00000, 0xffc00000, 0x7f800001, 0xff800001, MAX, -1}) {
            refused(FALSE, x -> x.height(0, 1, 1, b));
        }
    }

    @Says(promise = {4, 6}, words = "HEIGHTS are floats that are whole multiples of 1/1024, from -8192 to 8192 (-0 is 0): 1024 times one is its UNITS")
    static void promise04_eachPowerOfTwo() {
        for (int sign = 0; sign < 2; sign++) {
            for (int power = 0; power < 256; power++) {
                Sheets x = new Sheets();
                x.row(0, 0, 1, 0);
                for (int k = -1; k <= 23; k++) {
                    int fraction = k < 0 ? 0 : k == 23 ? 0x7fffff : 1 << k;
                    int b = sign << 31 | power << 23 | fraction;
                    float f = Float.intBitsToFloat(b);
                    boolean good = f >= -8192 && f <= 8192 && f * 1024.0 == Math.rint(f * 1024.0);
                    x.height(0, 0, 0, bits(7));
                    due(x.height(0, 0, 0, b), good ? TRUE : FALSE);
                    due(x.at(0, 0, 0), !good ? bits(7) : f == 0 ? 0 : b);
                }
            }
        }
    }

    @Says(promise = 4, words = "no such grid, point of its rows")
    static void promise04_noSuchGrid() {
        for (int g : NO_GRID) refused(FALSE, x -> x.height(g, 0, 0, bits(1)));
    }

    @Says(promise = 4, words = "no such grid, point of its rows")
    static void promise04_noSuchRow() {
        for (int i : NO_ROW) {
            refused(FALSE, x -> x.height(0, i, 0, bits(1)));
            refused(FALSE, x -> x.height(3, i, 39, bits(1)));
        }
        for (int i = 0; i < 32; i++) { int r = i; refusedIn(NEW, FALSE, x -> x.height(0, r, 0, bits(1))); }
    }

    @Says(promise = 4, words = "no such grid, point of its rows")
    static void promise04_noSuchColumn() {
        for (int j : NO_COLUMN) refused(FALSE, x -> x.height(0, 1, j, bits(1)));
        refusedIn(USED, FALSE, x -> x.height(1, 1, 1, bits(1)));
        refusedIn(USED, FALSE, x -> x.height(1, 1, 6, bits(1)));
        refusedIn(USED, FALSE, x -> x.height(3, 4, 39, bits(1)));
        refusedIn(USED, FALSE, x -> x.height(2, 7, 19, bits(1)));
        refusedIn(USED, FALSE, x -> x.height(2, 7, 25, bits(1)));
    }

    @Says(promise = {4, 5, 6}, words = "A point (row i, column j) has the number 40 * i + j")
    static void promise04_columnsDoNotRunIntoOtherRows() {
        Sheets x = new Sheets();
        for (int i = 0; i < 3; i++) x.row(0, i, 40, 0);
        put(x, 0, 1, 0, 5);
        put(x, 0, 1, 39, 6);
        due(x.height(0, 0, 40, 0), FALSE);
        due(x.height(0, 2, -1, 0), FALSE);
        due(x.height(0, 2, -40, 0), FALSE);
        due(x.height(0, 0, 79, 0), FALSE);
        due(x.at(0, 0, 40), NOT_THERE);
        due(x.at(0, 2, -1), NOT_THERE);
        due(x.missing(0, 0, 40), FALSE);
        due(x.missing(0, 2, -1), FALSE);
        due(x.at(0, 1, 0), bits(5));
        due(x.at(0, 1, 39), bits(6));
        due(x.point(0, 1, 0, 1), 40);
        due(x.point(0, 1, 39, 1), 79);
    }

    @Says(promise = {4, 6}, words = "A point's height becomes the float with these bits: true")
    static void promise04_firstAndLastPointOfAllGrids() {
        Sheets x = new Sheets();
        for (int g = 0; g < 4; g++) {
            x.row(g, 0, 40, 0);
            x.row(g, 31, 40, 0);
            for (int i : new int[] {0, 31}) for (int j : new int[] {0, 39}) put(x, g, i, j, 1000 * g + i + j);
        }
        for (int g = 0; g < 4; g++) {
            for (int i : new int[] {0, 31}) {
                for (int j : new int[] {0, 39}) {
                    due(x.at(g, i, j), bits(1000 * g + i + j));
                    due(x.point(g, i, j, 1), number(i, j));
                }
            }
            due(x.count(g, 0), 4);
        }
    }

    // ---- Promise 5: missing

    @Says(promise = 5, words = "A point is MISSING: true")
    static void promise05_firstAndLastPoint() {
        Sheets x = new Sheets();
        for (int g = 0; g < 4; g += 3) {
            x.row(g, 0, 40, 0);
            x.row(g, 31, 40, 0);
            for (int i : new int[] {0, 31}) for (int j : new int[] {0, 39}) put(x, g, i, j, i + j);
            for (int i : new int[] {0, 31}) for (int j : new int[] {0, 39}) due(x.missing(g, i, j), TRUE);
            due(x.count(g, 0), 0);
        }
    }

    @Says(promise = {5, 6}, words = "A point is MISSING: true")
    static void promise05_thatPointAloneAndItMayComeAgain() {
        Sheets x = sheet("123", "456", "789");
        due(x.missing(0, 1, 1), TRUE);
        for (int n = 0; n < 9; n++) due(x.at(0, n / 3, n % 3), n == 4 ? NOT_THERE : bits(n + 1));
        put(x, 0, 1, 1, -8192);
        due(x.at(0, 1, 1), bits(-8192));
        due(x.count(0, 0), 9);
    }

    @Says(promise = 5, words = "False: it isn't THERE")
    static void promise05_notThere() {
        refusedIn(NEW, FALSE, x -> x.missing(0, 0, 0));
        refusedIn(USED, FALSE, x -> x.missing(0, 1, 1));
        refusedIn(USED, FALSE, x -> x.missing(1, 2, 3));
        refusedIn(USED, FALSE, x -> x.missing(1, 1, 1));
        refusedIn(USED, FALSE, x -> x.missing(1, 1, 6));
        refusedIn(USED, FALSE, x -> x.missing(2, 7, 20));
        refusedIn(USED, FALSE, x -> x.missing(3, 4, 39));
        refusedIn(USED, FALSE, x -> x.missing(3, 29, 39));
        refusedIn(FULL, FALSE, x -> x.missing(0, 11, 0));
    }

    @Says(promise = 5, words = "False: it isn't THERE")
    static void promise05_noSuchGridRowOrColumn() {
        for (int g : NO_GRID) refused(FALSE, x -> x.missing(g, 0, 0));
        for (int i : NO_ROW) refused(FALSE, x -> x.missing(0, i, 0));
        for (int j : NO_COLUMN) refused(FALSE, x -> x.missing(0, 0, j));
    }

    @Says(promise = 5, words = "False: it isn't THERE")
    static void promise05_aSecondTime() {
        Sheets x = sheet("1");
        due(x.missing(0, 0, 0), TRUE);
        due(x.missing(0, 0, 0), FALSE);
        put(x, 0, 0, 0, 0);
        due(x.missing(0, 0, 0), TRUE);
        due(x.missing(0, 0, 0), FALSE);
    }

    // ---- Promise 6: at

    @Says(promise = 6, words = "A point's height (its bits)")
    static void promise06_bitsOfTheEnds() {
        Sheets x = new Sheets();
        x.row(0, 0, 40, 0);
        int[] units = {TOP, -TOP, TOP - 1, 1 - TOP, 1, -1, 1023, 1024, 1025, -1023, -1024, -1025, TOP / 2, TOP / 2 + 1, TOP / 2 - 1};
        for (int k = 0; k < units.length; k++) put(x, 0, 0, k, units[k] * UNIT);
        for (int k = 0; k < units.length; k++) due(x.at(0, 0, k), Float.floatToRawIntBits(units[k] / 1024f));
        due(x.at(0, 0, units.length), NOT_THERE);
    }

    @Says(promise = 6, words = "2147483647 if it isn't THERE")
    static void promise06_notThere() {
        for (int g : NO_GRID) refused(NOT_THERE, x -> x.at(g, 0, 0));
        for (int i : NO_ROW) refused(NOT_THERE, x -> x.at(0, i, 0));
        for (int j : NO_COLUMN) refused(NOT_THERE, x -> x.at(0, 0, j));
        refusedIn(NEW, NOT_THERE, x -> x.at(0, 0, 0));
        refusedIn(USED, NOT_THERE, x -> x.at(0, 1, 1));
        refusedIn(USED, NOT_THERE, x -> x.at(1, 1, 1));
        refusedIn(USED, NOT_THERE, x -> x.at(1, 1, 6));
        refusedIn(USED, NOT_THERE, x -> x.at(2, 7, 20));
    }

    @Says(promise = 6, words = "A point's height (its bits)")
    static void promise06_onlyShows() {
        changesNothing(USED, x -> x.at(0, 0, 0));
        changesNothing(USED, x -> x.at(3, 31, 39));
    }
}
