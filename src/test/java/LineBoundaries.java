/** Promises 7 to 13: level, levels, contour, line, side, place, inside. */
final class LineBoundaries extends Boundary {
    private LineBoundaries() { }

    // ---- Promise 7: level

    @Says(promise = 7, words = {"LEVELS: one more (-8192 .. 8192), above all others: how many", "LEVELS: up to 16 whole numbers, rising"})
    static void promise07_lowestAndHighest() {
        Sheets x = new Sheets();
        due(x.level(-8193), NONE);
        due(x.level(-8192), 1);
        due(x.level(-8191), 2);
        due(x.level(8191), 3);
        due(x.level(8192), 4);
        due(x.level(8193), NONE);
        due(x.level(8192), NONE);
        Sheets y = new Sheets();
        due(y.level(8192), 1);
        due(y.level(8192), NONE);
        due(y.level(-8192), NONE);
    }

    @Says(promise = 7, words = "NONE, changing nothing: it isn't, or there are 16")
    static void promise07_tooLowOrTooHigh() {
        for (int mm : new int[] {-8193, 8193, MIN, MAX}) refused(NONE, x -> x.level(mm));
    }

    @Says(promise = 7, words = {"above all others: how many", "NONE, changing nothing: it isn't, or there are 16"})
    static void promise07_notAboveAllOthers() {
        for (int mm : new int[] {-8192, 1, 2, 3, 4, 5}) refusedIn(USED, NONE, x -> x.level(mm));
        due(made(USED).level(6), 3);
        due(made(USED).level(8192), 3);
    }

    @Says(promise = 7, words = {"NONE, changing nothing: it isn't, or there are 16", "up to 16 whole numbers"})
    static void promise07_thereAreSixteen() {
        Sheets x = new Sheets();
        for (int v = 0; v < 16; v++) due(x.level(v - 8), v + 1);
        due(x.level(8), NONE);
        due(x.level(8192), NONE);
        for (int mm : new int[] {-8192, 0, 15, 16, 17, 8192}) refusedIn(FULL, NONE, y -> y.level(mm));
    }

    @Says(promise = {7, 9}, words = "(the same for all grids; in UNITS 1024 times so much)")
    static void promise07_sameForAllGrids() {
        Sheets x = new Sheets();
        x.level(-8191);
        x.level(8192);
        for (int g = 0; g < 4; g++) {
            plain(x, g, 2, 2, -8192);
            put(x, g, 1, 1, 8192);
            due(x.contour(g), 2);
            due(x.place(0, 0, 0), place(1000 * 1024.0 / (2.0 * TOP)));
            due(x.place(1, 0, 0), place(1000));
        }
    }

    // ---- Promise 8: levels

    @Says(promise = 8, words = "No LEVELS")
    static void promise08_whenThereAreNone() {
        changesNothing(NEW, Sheets::levels);
        Sheets x = new Sheets();
        x.levels();
        due(x.level(-8192), 1);
    }

    @Says(promise = 8, words = "No LEVELS")
    static void promise08_whenThereAreSixteen() {
        Sheets x = new Sheets();
        for (int v = 0; v < 16; v++) due(x.level(8177 + v), v + 1);
        x.levels();
        for (int v = 0; v < 16; v++) due(x.level(v - 8192), v + 1);
        due(x.level(8192), NONE);
        x.levels();
        x.levels();
        draw(x, 0, 0, 0, "09", "09");
        due(x.contour(0), 0);
    }

    @Says(promise = 8, words = "No LEVELS")
    static void promise08_linesStay() {
        linesStay(USED, Sheets::levels);
        linesStay(FULL, Sheets::levels);
        linesStay(USED, x -> x.levels() + x.level(-8192) + x.level(7));
    }

    // ---- Promise 9: contour

    @Says(promise = 9, words = "NONE, and the former ones stay: no such grid")
    static void promise09_noSuchGrid() {
        for (int g : NO_GRID) refused(NONE, x -> x.contour(g));
    }

    @Says(promise = 9, words = "The lines of a grid are made (by all LEVELS): how many")
    static void promise09_anEmptyGrid() {
        Sheets x = made(USED);
        for (int i = 0; i < 32; i++) x.row(1, i, i % 2 == 0 ? 0 : 3, i);
        due(x.line(3, 1), 4);
        due(x.contour(1), 0);
        due(x.line(0, 0), NONE);
        due(x.side(0, 0), NONE);
        due(x.place(0, 0, 0), 0);
        due(x.inside(0, 2, 2), NONE);
        due(x.contour(0) > 0 ? 1 : 0, 1);
    }

    @Says(promise = 9, words = "(by all LEVELS)")
    static void promise09_noLevels() {
        Sheets x = made(USED);
        x.levels();
        due(x.contour(0), 0);
        due(x.line(0, 0), NONE);
        due(x.inside(0, 2, 2), NONE);
    }

    @Says(promise = {9, 10}, words = "(by all LEVELS)")
    static void promise09_sixteenLevels() {
        Sheets x = sheet("000", "090", "000");
        for (int v = 0; v < 16; v++) x.level(v - 6);
        due(x.contour(0), 9);
        for (int k = 0; k < 9; k++) due(x.line(k, 0), k + 7);
        put(x, 0, 1, 1, 10);
        due(x.line(9, 0), NONE);
        due(x.contour(0), 9);
        x.levels();
        for (int v = 0; v < 16; v++) x.level(v + 1);
        put(x, 0, 1, 1, 16 - UNIT);
        due(x.contour(0), 15);
        put(x, 0, 1, 1, 16);
        due(x.contour(0), 16);
        for (int k = 0; k < 16; k++) due(x.line(k, 0), k);
        due(x.line(16, 0), NONE);
    }

    @Says(promise = 9, words = "A level crosses it if just one end is at least as high")
    static void promise09_endsAtTheLevel() {
        double[][] ends = {{5, 5, 0}, {5, 5 - UNIT, 1}, {5 - UNIT, 5, 1}, {5 - UNIT, 5 - UNIT, 0}, {5, 5 + UNIT, 0}, {5 + UNIT, 5 - UNIT, 1},
            {5, -8192, 1}, {8192, 5, 0}, {8192, -8192, 1}, {-8192, -8192, 0}, {8192, 8192, 0}};
        for (double[] e : ends) {
            Sheets x = new Sheets();
            x.level(5);
            plain(x, 0, 2, 2, e[0]);
            for (int i = 0; i < 2; i++) put(x, 0, i, 1, e[1]);
            due(x.contour(0), (long) e[2]);
        }
    }

    @Says(promise = 9, words = "A level crosses it if just one end is at least as high")
    static void promise09_lowestAndHighestLevel() {
        Sheets x = sheet("00", "00");
        x.level(-8192);
        x.level(8192);
        put(x, 0, 0, 0, -8192);
        due(x.contour(0), 0);
        put(x, 0, 0, 0, 8192 - UNIT);
        due(x.contour(0), 0);
        put(x, 0, 0, 0, 8192);
        due(x.contour(0), 1);
        due(x.line(0, 0), 1);
        sidesDue(x, 0, 0, 1);
    }

    @Says(promise = {9, 15}, words = "A cell (i, j) is WHOLE if it and (i, j + 1), (i + 1, j), (i + 1, j + 1) are THERE")
    static void promise09_aCellWithAMissingCorner() {
        for (int n = 0; n < 4; n++) {
            Sheets x = sheet("09", "30");
            x.level(2);
            due(x.contour(0), 2);
            due(x.count(0, 1), 1);
            due(x.missing(0, n / 2, n % 2), TRUE);
            due(x.contour(0), 0);
            due(x.count(0, 1), 0);
            due(x.volume(0, 0, 0), 0);
        }
    }

    @Says(promise = {9, 15}, words = "A cell (i, j) is WHOLE if it and (i, j + 1), (i + 1, j), (i + 1, j + 1) are THERE")
    static void promise09_noCells() {
        String[][] grids = {{"0909"}, {"0", "9", "0"}, {"0.9", ".9.", "0.9"}, {"09", "..", "90"}, {"0.9", "9.0"}};
        for (String[] rows : grids) {
            Sheets x = sheet(rows);
            x.level(5);
            due(x.contour(0), 0);
            due(x.count(0, 1), 0);
        }
    }

    @Says(promise = {9, 15}, words = {"from that point to the next column (dir 0), to the next row (dir 1), both THERE", "A cell (i, j) is WHOLE if"})
    static void promise09_theLastColumnHasNoNext() {
        Sheets x = new Sheets();
        x.row(0, 0, 1, 39);
        x.row(0, 1, 40, 0);
        x.row(0, 2, 1, 0);
        put(x, 0, 0, 39, 9);
        put(x, 0, 1, 39, 0);
        put(x, 0, 1, 0, 0);
        put(x, 0, 2, 0, 9);
        x.level(5);
        due(x.contour(0), 0);
        due(x.count(0, 1), 0);
        due(x.volume(0, 0, 0), 0);
    }

    @Says(promise = {9, 11, 15}, words = "A SIDE: number 2 * (that of a point) + dir")
    static void promise09_firstAndLastCell() {
        Sheets x = new Sheets();
        draw(x, 0, 30, 38, "00", "09");
        draw(x, 1, 0, 0, "90", "00");
        x.level(3);
        due(x.contour(0), 1);
        sidesDue(x, 0, 2556, 2479);
        due(x.count(0, 1), 1);
        due(x.contour(1), 1);
        sidesDue(x, 0, 0, 1);
        for (int i = 30; i < 32; i++) for (int j = 38; j < 40; j++) due(x.point(0, i, j, 6), 3);
    }

    @Says(promise = {9, 11}, words = {"Two are joined", "so that (their middles taken) the higher end of the first is on the left", "x goes with columns, y with rows; turned from x to y is to the left"})
    static void promise09_twoSidesOfACell() {
        // One sign for each corner: first row, then second row. Behind it the two sides in their order.
        String[] corners = {"90 00", "09 00", "00 90", "00 09", "09 99", "90 99", "99 09", "99 90", "99 00", "00 99", "90 90", "09 09"};
        int[][] want = {{0, 1}, {3, 0}, {1, 80}, {80, 3}, {1, 0}, {0, 3}, {80, 1}, {3, 80}, {3, 1}, {1, 3}, {0, 80}, {80, 0}};
        for (int n = 0; n < corners.length; n++) {
            Sheets x = sheet(corners[n].split(" "));
            x.level(5);
            due(x.contour(0), 1);
            sidesDue(x, 0, want[n]);
            due(x.line(0, 2), 0);
        }
        for (String flat : new String[] {"00 00", "99 99", "55 55", "56 78"}) {
            Sheets x = sheet(flat.split(" "));
            x.level(5);
            due(x.contour(0), 0);
        }
    }

    @Says(promise = {9, 11}, words = {"saddles joined by an exact sign", "In a WHOLE cell two or four SIDES are crossed", "Four (higher ends at two opposite corners): if the sum of the four heights is at least four times the level, the two SIDES at each lower corner are joined; else the two at each higher one"})
    static void promise09_fourSidesAndTheSum() {
        for (double less : new double[] {0, UNIT}) {
            Sheets x = sheet("90", "09");
            x.level(5);
            put(x, 0, 0, 0, 10);
            put(x, 0, 1, 1, 10 - less);
            due(x.contour(0), 2);
            sidesDue(x, 0, less == 0 ? new int[] {0, 3} : new int[] {0, 1});
            sidesDue(x, 1, less == 0 ? new int[] {80, 1} : new int[] {80, 3});
            Sheets y = sheet("09", "90");
            y.level(5);
            put(y, 0, 0, 1, 10 - less);
            put(y, 0, 1, 0, 10);
            due(y.contour(0), 2);
            sidesDue(y, 0, less == 0 ? new int[] {1, 0} : new int[] {1, 80});
            sidesDue(y, 1, less == 0 ? new int[] {3, 80} : new int[] {3, 0});
        }
    }

    @Says(promise = {9, 11}, words = "if the sum of the four heights is at least four times the level")
    static void promise09_fourSidesAtTheEndsOfHeights() {
        Sheets x = new Sheets();
        plain(x, 0, 2, 2, -8192);
        put(x, 0, 0, 0, 8192);
        put(x, 0, 1, 1, 8192);
        for (int mm : new int[] {-8191, 0, 1, 8192}) x.level(mm);
        due(x.contour(0), 8);
        for (int v = 0; v < 4; v++) {
            sidesDue(x, 2 * v, v < 2 ? new int[] {0, 3} : new int[] {0, 1});
            sidesDue(x, 2 * v + 1, v < 2 ? new int[] {80, 1} : new int[] {80, 3});
        }
        // All corners but one as high as can be, and that one a unit less: just two sides.
        Sheets y = new Sheets();
        plain(y, 0, 2, 2, 8192);
        put(y, 0, 0, 1, 8192 - UNIT);
        y.level(8192);
        due(y.contour(0), 1);
        sidesDue(y, 0, 0, 3);
    }

    @Says(promise = {9, 11}, words = {"first the lines that begin at a SIDE to which nothing leads, by its number; then the closed ones, from the least SIDE that is on none", "A line: SIDES one behind the other, each gone on from where there is more"})
    static void promise09_openLinesBeforeClosedOnes() {
        Sheets x = sheet("000000", "090090", "000000", "000000", "900009");
        x.level(3);
        due(x.contour(0), 4);
        sidesDue(x, 0, 241, 320);
        sidesDue(x, 1, 328, 251);
        sidesDue(x, 2, 3, 82, 83, 80);
        sidesDue(x, 3, 9, 88, 89, 86);
        for (int k = 0; k < 4; k++) due(x.line(k, 2), k / 2);
    }

    @Says(promise = {9, 10}, words = "For each level, rising")
    static void promise09_levelBehindLevel() {
        Sheets x = sheet("9000", "0000", "0060", "0000");
        for (int mm : new int[] {2, 4, 8}) x.level(mm);
        due(x.contour(0), 5);
        int[][] want = {{0, 0}, {0, 1}, {1, 0}, {1, 1}, {2, 0}};
        for (int k = 0; k < 5; k++) {
            due(x.line(k, 0), want[k][0]);
            due(x.line(k, 2), want[k][1]);
        }
    }

    @Says(promise = 9, words = "The lines of a grid are made (by all LEVELS): how many")
    static void promise09_madeAgain() {
        linesStay(FULL, x -> x.contour(0));
        Sheets x = sheet("000", "090", "000");
        draw(x, 1, 0, 0, "09", "09");
        x.level(5);
        for (int n = 0; n < 3; n++) {
            due(x.contour(0), 1);
            sidesDue(x, 0, 3, 82, 83, 80);
            due(x.line(0, 2), 1);
            due(x.contour(1), 1);
            sidesDue(x, 0, 80, 0);
            due(x.line(0, 2), 0);
        }
    }

    /** Hills of one point each, in rows of five. */
    private static void hills(Sheets x, int many, double top) {
        int rows = 2 * ((many + 4) / 5) + 1;
        plain(x, 0, rows, 11, 0);
        for (int n = 0; n < many; n++) x.height(0, 2 * (n / 5) + 1, 2 * (n % 5) + 1, bits(top));
    }

    private static int upOfHill(int n) { return 2 * number(2 * (n / 5), 2 * (n % 5) + 1) + 1; }

    @Says(promise = {9, 10, 11, 12, 13}, words = "At most 400 lines")
    static void promise09_just400Lines() {
        Sheets x = new Sheets();
        hills(x, 25, 16);
        for (int mm = 1; mm <= 16; mm++) x.level(mm);
        due(x.contour(0), 400);
        due(x.line(399, 0), 15);
        due(x.line(399, 2), 1);
        due(x.line(399, 3), 374);
        due(x.line(399, 4), 1);
        due(x.line(399, 5), 1);
        sidesDue(x, 399, upOfHill(24), upOfHill(24) + 79, upOfHill(24) + 80, upOfHill(24) + 77);
        due(x.place(399, 0, 0), place(9000));
        due(x.place(399, 0, 1), place(9000));
        due(x.inside(399, 9, 9), 1);
        due(x.line(400, 0), NONE);
        due(x.side(400, 0), NONE);
        due(x.place(400, 0, 0), 0);
        due(x.inside(400, 9, 9), NONE);
    }

    @Says(promise = {9, 10}, words = "the first line that would have more, and all behind it, are left out")
    static void promise09_the401stLine() {
        Sheets x = made(FULL);
        due(x.contour(0), 400);
        due(x.line(25, 0), 0);
        due(x.side(25, 0), 2 * number(20, 31) + 1);
        due(x.line(26, 0), 1);
        due(x.line(399, 0), 15);
        due(x.side(399, 0), upOfHill(23));
        due(x.line(400, 0), NONE);
        due(x.side(400, 0), NONE);
        Sheets y = new Sheets();
        hills(y, 40, 100);
        for (int mm = 1; mm <= 16; mm++) y.level(mm);
        due(y.contour(0), 400);
        due(y.line(399, 0), 9);
        due(y.side(399, 0), upOfHill(39));
        due(y.line(399, 3), 359);
        due(y.line(400, 0), NONE);
        y.levels();
        y.level(1);
        due(y.contour(0), 40);
        due(y.line(40, 0), NONE);
    }

    /** Up and down by turns, the cells' sums too (24 up or down): every one of the 799 sides is on one of 39 lines. */
    private static Sheets board(int lowest, int levelCount) {
        Sheets x = new Sheets();
        for (int i = 0; i < 20; i++) {
            x.row(0, i, 21, 0);
            for (int j = 0; j < 21; j++) {
                int f = 4000 + 24 * (i - 10) * (j - 10);
                x.height(0, i, j, bits((i + j) % 2 == 0 ? f : -f));
            }
        }
        for (int v = 0; v < levelCount; v++) x.level(lowest + v);
        return x;
    }

    /** Two cells apart: at levels up to the second height three sides are crossed, from there up to the first one two. */
    private static void twoCells(Sheets x, double first, double others) {
        for (int i = 30; i < 32; i++) x.row(0, i, 3, 0);
        for (int j = 0; j < 3; j++) {
            put(x, 0, 30, j, j == 0 ? first : others);
            put(x, 0, 31, j, -8000);
        }
    }

    @Says(promise = {9, 10, 11}, words = "8000 SIDES on all together")
    static void promise09_just8000Sides() {
        Sheets x = board(-5, 10);
        due(x.contour(0), 390);
        // Levels -5 and -4 by three sides, -3 and -2 by two: ten more than 7990.
        twoCells(x, -2, -4);
        due(x.contour(0), 394);
        due(x.line(39, 1), 3);
        due(x.line(159, 1), 2);
        due(x.line(393, 0), 9);
        int length = (int) x.line(393, 1);
        due(x.side(393, length - 1) >= 0 ? 1 : 0, 1);
        due(x.side(393, length), NONE);
        due(x.line(394, 0), NONE);
    }

    @Says(promise = {9, 10, 11}, words = "the first line that would have more, and all behind it, are left out")
    static void promise09_the8001stSide() {
        Sheets x = board(-5, 10);
        // Levels -5, -4 and -3 by three sides, -2 by two: eleven more than 7990, and the last line has no room.
        twoCells(x, -2, -3);
        due(x.contour(0), 393);
        due(x.line(119, 1), 3);
        due(x.line(159, 1), 2);
        due(x.line(392, 0), 9);
        due(x.line(393, 0), NONE);
        due(x.side(393, 0), NONE);
    }

    @Says(promise = {9, 10}, words = "the first line that would have more, and all behind it, are left out")
    static void promise09_shorterOnesBehindAreLeftOutToo() {
        Sheets alone = board(5, 1);
        due(alone.contour(0), 39);
        int room = 8000 - 7990;
        int fit = 0;
        while (alone.line(fit, 1) <= room) {
            room -= (int) alone.line(fit, 1);
            fit++;
        }
        boolean shorter = false;
        for (int k = fit + 1; k < 39; k++) shorter = shorter || alone.line(k, 1) <= room;
        due(shorter ? 1 : 0, 1);
        Sheets x = board(-5, 11);
        due(x.contour(0), 390 + fit);
        for (int k = 0; k < fit; k++) {
            due(x.line(390 + k, 0), 10);
            due(x.line(390 + k, 1), alone.line(k, 1));
        }
        due(x.line(390 + fit, 0), NONE);
    }

    // ---- Promise 10: line

    @Says(promise = 10, words = "NONE for others")
    static void promise10_noSuchLine() {
        for (int what = 0; what <= 5; what++) {
            int w = what;
            for (int k : new int[] {-1, 400, MIN, MAX}) refused(NONE, x -> x.line(k, w));
            refusedIn(NEW, NONE, x -> x.line(0, w));
            refusedIn(USED, NONE, x -> x.line(4, w));
        }
    }

    @Says(promise = 10, words = "NONE for others")
    static void promise10_noSuchWhat() {
        for (int what : new int[] {-1, 6, 7, MIN, MAX}) {
            refused(NONE, x -> x.line(0, what));
            refusedIn(USED, NONE, x -> x.line(3, what));
            refusedIn(FULL, NONE, x -> x.line(399, what));
        }
    }

    @Says(promise = 10, words = "0 its LEVEL's index, 1 how many SIDES, 2 whether it is closed (1, 0)")
    static void promise10_firstAndLastLine() {
        Sheets x = made(USED);
        long[][] want = {{0, 12, 1, NONE, 9, 1}, {0, 4, 1, 3, 1, 0}, {1, 12, 1, 0, 9, 1}, {1, 4, 1, 2, 1, 0}};
        for (int k = 0; k < 4; k++) for (int what = 0; what <= 5; what++) due(x.line(k, what), want[k][what]);
        for (int what = 0; what <= 5; what++) changesNothing(USED, lineCall(3, what));
    }

    private static Call lineCall(int k, int what) { return x -> x.line(k, what); }

    @Says(promise = {10, 11}, words = {"1 how many SIDES", "each gone on from where there is more"})
    static void promise10_shortestAndLongLines() {
        Sheets x = sheet("00", "09");
        x.level(5);
        x.contour(0);
        due(x.line(0, 1), 2);
        x = sheet("000", "090", "000");
        x.level(5);
        x.contour(0);
        due(x.line(0, 1), 4);
        // Teeth that stand on the last row: one line from rim to rim around them all, at every level.
        Sheets comb = new Sheets();
        for (int i = 0; i < 20; i++) {
            comb.row(0, i, 21, 0);
            for (int j = 0; j < 21; j++) comb.height(0, i, j, bits(i == 19 || j % 2 == 1 && i >= 1 ? 100 : 0));
        }
        for (int mm = 1; mm <= 16; mm++) comb.level(mm);
        due(comb.contour(0), 16);
        for (int k = 0; k < 16; k += 15) {
            due(comb.line(k, 0), k);
            due(comb.line(k, 1), 381);
            due(comb.line(k, 2), 0);
            due(comb.side(k, 0), 2 * number(18, 0) + 1);
            due(comb.side(k, 380), 2 * number(18, 20) + 1);
            due(comb.side(k, 381), NONE);
        }
    }

    @Says(promise = {10, 13}, words = {"3 its PARENT (NONE without, or not closed)", "4 how many points are inside (of one that isn't closed NONE)", "5 whether the higher ground is inside (1, 0; NONE not closed)"})
    static void promise10_notClosed() {
        Sheets x = sheet("00000", "00000", "00900", "05555", "55555");
        x.level(3);
        x.level(6);
        due(x.contour(0), 2);
        due(x.line(0, 2), 0);
        for (int what = 3; what <= 5; what++) due(x.line(0, what), NONE);
        due(x.inside(0, 2, 2), NONE);
        // The open line goes around the closed one, but is no parent.
        due(x.line(1, 2), 1);
        due(x.line(1, 3), NONE);
        due(x.line(1, 4), 1);
        due(x.line(1, 5), 1);
    }

    @Says(promise = 10, words = {"A closed line is AROUND another one if all points inside that are inside it, and it has more; or as many, and its level is lower, the higher ground being inside, or higher, that being outside"})
    static void promise10_asManyPoints() {
        Sheets hill = sheet("000", "090", "000");
        Sheets pit = sheet("999", "909", "999");
        for (int mm = 1; mm <= 9; mm++) {
            hill.level(mm);
            pit.level(mm);
        }
        due(hill.contour(0), 9);
        due(pit.contour(0), 9);
        for (int k = 0; k < 9; k++) {
            due(hill.line(k, 4), 1);
            due(pit.line(k, 4), 1);
            due(hill.line(k, 5), 1);
            due(pit.line(k, 5), 0);
            due(hill.line(k, 3), k == 0 ? NONE : k - 1);
            due(pit.line(k, 3), k == 8 ? NONE : k + 1);
        }
    }

    @Says(promise = 10, words = "Its PARENT: that AROUND it with the fewest points inside, of like ones the nearest level")
    static void promise10_fewestPointsThenNearestLevel() {
        Sheets x = new Sheets();
        plain(x, 0, 7, 7, 0);
        for (int i = 1; i < 6; i++) for (int j = 1; j < 6; j++) put(x, 0, i, j, i > 1 && i < 5 && j > 1 && j < 5 ? 4.5 : 2.5);
        put(x, 0, 3, 3, 9);
        for (int mm = 1; mm <= 9; mm++) x.level(mm);
        due(x.contour(0), 9);
        int[] points = {25, 25, 9, 9, 1, 1, 1, 1, 1};
        for (int k = 0; k < 9; k++) {
            due(x.line(k, 4), points[k]);
            due(x.line(k, 3), k - 1);
        }
        // A pit within: around its lines those of its own higher levels, then the hill's line of the level nearest to it.
        put(x, 0, 3, 3, 0.5);
        due(x.contour(0), 8);
        for (int k = 0; k < 8; k += 2) {
            due(x.line(k, 4), k < 4 ? 25 : 9);
            due(x.line(k, 3), k == 0 ? NONE : k - 2);
            due(x.line(k + 1, 4), 1);
            due(x.line(k + 1, 5), 0);
            due(x.line(k + 1, 3), k < 6 ? k + 3 : k);
        }
    }

    @Says(promise = 10, words = "and it has more")
    static void promise10_besideIsNotAround() {
        Sheets x = sheet("00000", "09090", "00000");
        x.level(3);
        x.level(6);
        due(x.contour(0), 4);
        int[] parents = {NONE, NONE, 0, 1};
        for (int k = 0; k < 4; k++) due(x.line(k, 3), parents[k]);
    }

    @Says(promise = {10, 13}, words = {"4 how many points are inside", "INSIDE a closed line: a point THERE"})
    static void promise10_pointsInside() {
        Sheets x = sheet("000", "090", "000");
        x.level(5);
        x.contour(0);
        due(x.line(0, 4), 1);
        Sheets hole = sheet("00000", "09990", "09.90", "09990", "00000");
        hole.level(5);
        hole.contour(0);
        due(hole.line(0, 4), 8);
        Sheets wide = new Sheets();
        for (int i = 0; i < 20; i++) {
            wide.row(0, i, 20, 0);
            for (int j = 0; j < 20; j++) {
                boolean within = i >= 2 && i <= 17 && j >= 3 && j <= 16;
                wide.height(0, i, j, bits(i >= 1 && i <= 18 && j >= 1 && j <= 18 && !within ? 9 : 0));
            }
        }
        wide.level(5);
        due(wide.contour(0), 2);
        due(wide.line(0, 4), 18 * 18);
        due(wide.line(1, 4), 16 * 14);
        due(wide.line(1, 3), 0);
    }

    @Says(promise = 10, words = {"5 whether the higher ground is inside", "A level crosses it if just one end is at least as high"})
    static void promise10_higherGroundIsWhatIsAtTheLevel() {
        Sheets x = sheet("555", "505", "555");
        x.level(5);
        due(x.contour(0), 1);
        due(x.line(0, 5), 0);
        Sheets y = sheet("000", "050", "000");
        y.level(5);
        due(y.contour(0), 1);
        due(y.line(0, 5), 1);
    }

    @Says(promise = 10, words = "Of line k of the latest contour()")
    static void promise10_ofTheLatestContour() {
        linesStay(USED, x -> x.row(0, 2, 0, 0));
        linesStay(USED, x -> x.row(0, 31, 40, 0));
        linesStay(USED, x -> x.height(0, 2, 2, bits(8192)));
        linesStay(USED, x -> x.missing(0, 2, 2));
        linesStay(USED, x -> x.spacing(0, 1));
        linesStay(USED, x -> x.level(6));
        linesStay(USED, x -> x.smooth(0, 0, 1));
        linesStay(USED, x -> x.smooth(1, 0, 1000));
        linesStay(USED, x -> x.difference(0, 0, 0));
        linesStay(USED, x -> x.difference(3, 2, 0));
        linesStay(FULL, x -> x.row(0, 0, 0, 0));
    }

    // ---- Promise 11: side

    @Says(promise = 11, words = "SIDE i of line k: its number")
    static void promise11_firstAndLastSide() {
        Sheets x = made(USED);
        sidesDue(x, 0, 3, 5, 7, 86, 166, 246, 247, 245, 243, 240, 160, 80);
        sidesDue(x, 1, 85, 162, 165, 164);
        sidesDue(x, 3, 85, 162, 165, 164);
        changesNothing(USED, y -> y.side(3, 3));
    }

    @Says(promise = 11, words = "NONE if there is none such")
    static void promise11_noSuchSideOrLine() {
        for (int i : new int[] {-1, MIN, MAX, 8000}) {
            refused(NONE, x -> x.side(0, i));
            refused(NONE, x -> x.side(399, i));
        }
        for (int k : new int[] {-1, 400, MIN, MAX}) {
            refused(NONE, x -> x.side(k, 0));
            refused(NONE, x -> x.side(k, -1));
        }
        refusedIn(NEW, NONE, x -> x.side(0, 0));
        refusedIn(USED, NONE, x -> x.side(0, 12));
        refusedIn(USED, NONE, x -> x.side(3, 4));
        refusedIn(USED, NONE, x -> x.side(4, 0));
        refusedIn(FULL, NONE, x -> x.side(0, 4));
        refusedIn(FULL, NONE, x -> x.side(399, 4));
    }

    // ---- Promise 12: place

    @Says(promise = 12, words = {"Its place: x (axis 0), y (1), the bits of the double", "x (dir 0), y (dir 1) is SPACING * (column, row * (b - a) + (L - a)) / (b - a), the nearest double", "the other one SPACING * row, column"})
    static void promise12_farthestAndNearestPlaces() {
        Sheets x = new Sheets();
        draw(x, 0, 30, 38, "00", "09");
        x.spacing(0, 100000);
        x.level(3);
        x.level(9);
        due(x.contour(0), 2);
        due(x.place(0, 0, 0), place(100000 * 345 / 9.0));
        due(x.place(0, 0, 1), place(3100000));
        due(x.place(0, 1, 0), place(3900000));
        due(x.place(0, 1, 1), place(100000 * 273 / 9.0));
        due(x.place(1, 0, 0), place(3900000));
        due(x.place(1, 1, 1), place(3100000));
        // The least place above 0: the level one unit above the lowest ground that it crosses, the rise to the top, the least spacing.
        Sheets y = new Sheets();
        plain(y, 0, 2, 2, 8192);
        put(y, 0, 0, 0, -8191 - UNIT);
        y.spacing(0, 1);
        y.level(-8191);
        due(y.contour(0), 1);
        due(y.place(0, 0, 1), place(1.0 / 16776193));
        due(y.place(0, 0, 0), 0);
        due(y.place(0, 1, 0), place(1.0 / 16776193));
        due(y.place(0, 1, 1), 0);
    }

    @Says(promise = 12, words = "the nearest double")
    static void promise12_greatestRise() {
        Sheets x = new Sheets();
        plain(x, 0, 2, 2, -8192);
        for (int i = 0; i < 2; i++) put(x, 0, i, 1, 8192 - i * UNIT);
        x.spacing(0, 99999);
        int[] levels = {-8191, -1, 0, 1, 4097, 8191};
        for (int mm : levels) x.level(mm);
        due(x.contour(0), 6);
        for (int v = 0; v < 6; v++) {
            double over = 99999.0 * (levels[v] + 8192) * 1024;
            due(x.place(v, 0, 0), place(over / (2.0 * TOP - 1)));
            due(x.place(v, 1, 0), place(over / (2.0 * TOP)));
        }
    }

    @Says(promise = 12, words = "(0 without sign)")
    static void promise12_zeroWithoutSign() {
        // At (0, 0) the level itself, higher than its neighbours: the rise is below 0, and nothing goes with it.
        Sheets x = sheet("50", "00");
        x.level(5);
        x.contour(0);
        sidesDue(x, 0, 0, 1);
        for (int i = 0; i < 2; i++) for (int axis = 0; axis < 2; axis++) due(x.place(0, i, axis), 0);
        Sheets y = sheet("00", "00");
        put(y, 0, 0, 0, -1);
        y.level(-1);
        due(y.contour(0), 0);
        put(y, 0, 0, 1, -2);
        put(y, 0, 1, 0, -2);
        put(y, 0, 1, 1, -2);
        due(y.contour(0), 1);
        for (int i = 0; i < 2; i++) for (int axis = 0; axis < 2; axis++) due(y.place(0, i, axis), 0);
    }

    @Says(promise = 12, words = "a the height at its point, b at the other end, L the level (UNITS)")
    static void promise12_levelAtEitherEnd() {
        Sheets x = sheet("05", "05");
        draw(x, 1, 0, 0, "50", "50");
        x.level(5);
        x.contour(0);
        for (int i = 0; i < 2; i++) due(x.place(0, i, 0), place(1000));
        x.contour(1);
        for (int i = 0; i < 2; i++) due(x.place(0, i, 0), 0);
        put(x, 1, 0, 0, 5 + UNIT);
        put(x, 1, 1, 0, 5 + UNIT);
        x.contour(1);
        for (int i = 0; i < 2; i++) due(x.place(0, i, 0), place(1000 / 5121.0));
    }

    @Says(promise = 12, words = "a the height at its point, b at the other end, L the level (UNITS)")
    static void promise12_aRiseOrFallOfOneUnit() {
        // The level is the higher end itself: the place is that point, whichever end it is.
        Sheets x = sheet("5555", "5555", "5555", "5555");
        for (int n = 0; n < 4; n++) put(x, 0, n / 2 + 1, n % 2 + 1, 5 - UNIT);
        draw(x, 1, 0, 0, "5555", "5555", "5555", "5555");
        for (int n = 0; n < 16; n++) if (n / 4 % 3 == 0 || n % 4 % 3 == 0) put(x, 1, n / 4, n % 4, 5 - UNIT);
        x.level(5);
        int[][] pit = {{1, 0}, {0, 1}, {0, 2}, {1, 3}, {2, 3}, {3, 2}, {3, 1}, {2, 0}};
        int[][] hill = {{1, 1}, {2, 1}, {2, 1}, {2, 2}, {2, 2}, {1, 2}, {1, 2}, {1, 1}};
        for (int g = 0; g < 2; g++) {
            due(x.contour(g), 1);
            due(x.line(0, 1), 8);
            due(x.line(0, 5), g);
            for (int i = 0; i < 8; i++) {
                int[] want = g == 1 ? hill[i] : pit[i];
                due(x.place(0, i, 0), place(1000 * want[0]));
                due(x.place(0, i, 1), place(1000 * want[1]));
            }
        }
    }

    @Says(promise = 12, words = "(as the grid was when the lines were made)")
    static void promise12_asTheGridWas() {
        Call[] later = {x -> x.spacing(0, 1), x -> x.height(0, 1, 1, bits(-8192)), x -> x.missing(0, 1, 1), x -> x.row(0, 1, 0, 0),
            Sheets::levels, x -> x.smooth(0, 0, 3), x -> x.difference(1, 1, 0)};
        Sheets x = sheet("00", "09");
        x.level(3);
        x.contour(0);
        for (Call change : later) {
            change.on(x);
            due(x.place(0, 0, 0), place(1000 * 3 / 9.0));
            due(x.place(0, 0, 1), place(1000));
        }
        due(x.contour(0), 0);
        due(x.place(0, 0, 0), 0);
    }

    @Says(promise = 12, words = "0 if there is none such")
    static void promise12_noSuchAxisSideOrLine() {
        // Sides of both kinds, away from the first row and column: neither of their places is 0.
        for (int axis : new int[] {-1, 2, MIN, MAX}) {
            refused(0, x -> x.place(0, 0, axis));
            refusedIn(USED, 0, x -> x.place(0, 4, axis));
            refusedIn(USED, 0, x -> x.place(0, 6, axis));
            refusedIn(FULL, 0, x -> x.place(399, 0, axis));
            refusedIn(FULL, 0, x -> x.place(399, 1, axis));
        }
        for (int axis = 0; axis < 2; axis++) {
            int a = axis;
            for (int i : new int[] {-1, 8000, MIN, MAX}) refused(0, x -> x.place(0, i, a));
            for (int k : new int[] {-1, 400, MIN, MAX}) refused(0, x -> x.place(k, 1, a));
            refusedIn(NEW, 0, x -> x.place(0, 0, a));
            refusedIn(USED, 0, x -> x.place(0, 12, a));
            refusedIn(USED, 0, x -> x.place(4, 0, a));
            refusedIn(FULL, 0, x -> x.place(399, 4, a));
        }
        changesNothing(USED, x -> x.place(3, 3, 1));
    }

    // ---- Promise 13: inside

    @Says(promise = 13, words = "NONE: no such closed line, row, column (0 .. 39)")
    static void promise13_noSuchLineRowOrColumn() {
        for (int k : new int[] {-1, 400, MIN, MAX}) refused(NONE, x -> x.inside(k, 2, 2));
        for (int i : NO_ROW) refused(NONE, x -> x.inside(0, i, 2));
        for (int j : NO_COLUMN) refused(NONE, x -> x.inside(0, 2, j));
        refusedIn(NEW, NONE, x -> x.inside(0, 0, 0));
        refusedIn(USED, NONE, x -> x.inside(4, 2, 2));
    }

    @Says(promise = 13, words = "NONE: no such closed line, row, column (0 .. 39)")
    static void promise13_firstAndLastRowAndColumn() {
        Sheets x = made(USED);
        for (int i : new int[] {0, 31}) for (int j : new int[] {0, 39}) due(x.inside(0, i, j), 0);
        Sheets y = sheet("00", "09");
        y.level(5);
        y.contour(0);
        due(y.line(0, 2), 0);
        due(y.inside(0, 1, 1), NONE);
        due(y.inside(0, 31, 39), NONE);
    }

    @Says(promise = 13, words = {"Whether a point is inside line k: 1, 0", "a point THERE for which the line's SIDES of dir 0 in its row, in lower columns, are an odd number"})
    static void promise13_anOddNumberOfSides() {
        // A ring that is open below: from the left its rows meet one, two, three and four sides of the line.
        Sheets x = sheet("0000000", "0999990", "0900090", "0900090", "0990990", "0000000");
        x.level(5);
        due(x.contour(0), 1);
        due(x.line(0, 2), 1);
        String[] want = {"0000000", "0111110", "0100010", "0100010", "0110110", "0000000"};
        for (int i = 0; i < 6; i++) for (int j = 0; j < 7; j++) due(x.inside(0, i, j), want[i].charAt(j) - '0');
        for (int j = 7; j < 40; j++) due(x.inside(0, 2, j), 0);
        due(x.line(0, 4), 13);
    }

    @Says(promise = 13, words = "1, 0 (also if it was not THERE when the lines were made)")
    static void promise13_notThereThen() {
        Sheets x = sheet("00000", "09990", "09.90", "09990", "00000");
        x.level(5);
        x.contour(0);
        due(x.inside(0, 2, 2), 0);
        due(x.inside(0, 2, 3), 1);
        put(x, 0, 2, 2, 9);
        due(x.inside(0, 2, 2), 0);
        due(x.missing(0, 2, 3), TRUE);
        due(x.inside(0, 2, 3), 1);
        x.row(0, 2, 0, 0);
        due(x.inside(0, 2, 1), 1);
        due(x.line(0, 4), 8);
        x.row(0, 2, 5, 0);
        due(x.inside(0, 10, 10), 0);
        // Once more, without a point that was there at the former contour.
        Sheets again = sheet("00000", "09990", "09990", "09990", "00000");
        again.level(5);
        again.contour(0);
        due(again.inside(0, 2, 2), 1);
        due(again.line(0, 4), 9);
        due(again.missing(0, 2, 2), TRUE);
        due(again.contour(0), 1);
        due(again.inside(0, 2, 2), 0);
        due(again.line(0, 4), 8);
        changesNothing(USED, y -> y.inside(0, 2, 2));
    }
}
