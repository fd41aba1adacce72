/** Promises 14 to 19: point, count, volume, seen, smooth, difference. */
final class GroundBoundaries extends Boundary {
    private static final String[] SLOPES = {"555", "555", "555"};

    private GroundBoundaries() { }

    // ---- Promise 14: point

    @Says(promise = 14, words = "-8388610 for others")
    static void promise14_noSuchGridRowOrColumn() {
        for (int what = 0; what <= 6; what++) {
            int w = what;
            for (int g : NO_GRID) refusedIn(USED, NO_ANSWER, x -> x.point(g, 0, 0, w));
            for (int i : NO_ROW) refusedIn(USED, NO_ANSWER, x -> x.point(0, i, 0, w));
            for (int j : NO_COLUMN) refusedIn(USED, NO_ANSWER, x -> x.point(0, 0, j, w));
        }
        refused(NO_ANSWER, x -> x.point(-1, -1, -1, 0));
    }

    @Says(promise = 14, words = {"Of a point THERE", "-8388610 for others"})
    static void promise14_notThere() {
        for (int what = 0; what <= 6; what++) {
            int w = what;
            refusedIn(NEW, NO_ANSWER, x -> x.point(0, 0, 0, w));
            refusedIn(USED, NO_ANSWER, x -> x.point(0, 1, 1, w));
            refusedIn(USED, NO_ANSWER, x -> x.point(1, 1, 1, w));
            refusedIn(USED, NO_ANSWER, x -> x.point(1, 1, 6, w));
            refusedIn(USED, NO_ANSWER, x -> x.point(2, 7, 20, w));
            refusedIn(FULL, NO_ANSWER, x -> x.point(0, 11, 0, w));
        }
    }

    @Says(promise = 14, words = "-8388610 for others")
    static void promise14_noSuchWhat() {
        for (int what : new int[] {-1, 7, MIN, MAX}) {
            refused(NO_ANSWER, x -> x.point(0, 0, 0, what));
            refusedIn(USED, NO_ANSWER, x -> x.point(3, 31, 39, what));
        }
        for (int what = 0; what <= 6; what++) {
            int w = what;
            changesNothing(USED, x -> x.point(0, 2, 2, w));
            changesNothing(FULL, x -> x.point(0, 1, 1, w));
        }
    }

    @Says(promise = 14, words = {"0 the number of that to which its water goes (NONE from a PIT)", "without any lower one it is a PIT", "(A point as high as another one is not lower.)"})
    static void promise14_asHighIsNotLower() {
        Sheets x = sheet(SLOPES);
        for (int n = 0; n < 9; n++) {
            due(x.point(0, n / 3, n % 3, 0), NONE);
            due(x.point(0, n / 3, n % 3, 1), number(n / 3, n % 3));
            due(x.point(0, n / 3, n % 3, 2), 1);
        }
        due(x.count(0, 2), 9);
        put(x, 0, 2, 2, 5 - UNIT);
        due(x.point(0, 1, 1, 0), 82);
        due(x.point(0, 0, 0, 0), NONE);
        due(x.point(0, 2, 2, 0), NONE);
        due(x.point(0, 2, 2, 2), 4);
        due(x.count(0, 2), 6);
        put(x, 0, 2, 2, 5 + UNIT);
        due(x.point(0, 1, 1, 0), NONE);
        due(x.point(0, 2, 2, 0), 42);
    }

    @Says(promise = 14, words = "the difference squared, by 1 beside it, by 2 aslant, is the greatest")
    static void promise14_besideOrAslant() {
        // By units, up to the greatest difference there can be: twice the one squared against the other squared.
        int[][] falls = {{1, 1, 1}, {5, 7, 1}, {5, 8, 82}, {12, 17, 82}, {12, 16, 1}, {11863283, 16777216, 82}, {11863284, 16777216, 1}, {16777216, 16777216, 1}, {0, 1, 82}, {1, 0, 1}};
        for (int[] f : falls) {
            Sheets x = sheet(".0.", ".0.", "..0");
            put(x, 0, 1, 1, 8192);
            put(x, 0, 0, 1, (TOP - f[0]) * UNIT);
            put(x, 0, 2, 2, (TOP - f[1]) * UNIT);
            due(x.point(0, 1, 1, 0), f[2]);
        }
    }

    @Says(promise = 14, words = "of like ones to the least number")
    static void promise14_ofLikeOnesTheLeastNumber() {
        int[][] beside = {{0, 1}, {1, 0}, {1, 2}, {2, 1}};
        int[][] aslant = {{0, 0}, {0, 2}, {2, 0}, {2, 2}};
        for (int[][] four : new int[][][] {beside, aslant}) {
            Sheets x = sheet("999", "999", "999");
            for (int[] p : four) put(x, 0, p[0], p[1], 4);
            for (int[] p : four) {
                due(x.point(0, 1, 1, 0), number(p[0], p[1]));
                due(x.missing(0, p[0], p[1]), TRUE);
            }
            due(x.point(0, 1, 1, 0), NONE);
        }
    }

    @Says(promise = 14, words = {"Its BASIN: the PIT that it comes to", "1 that of its BASIN"})
    static void promise14_basinFromEndToEnd() {
        Sheets x = new Sheets();
        for (int i = 0; i < 32; i++) {
            int j = i == 31 ? 39 : i;
            x.row(0, i, i == 31 ? 9 : 1, i == 31 ? 31 : i);
            put(x, 0, i, i == 31 ? 31 : j, 100 - i);
        }
        for (int j = 32; j < 40; j++) put(x, 0, 31, j, 69 - (j - 31));
        due(x.point(0, 0, 0, 0), 41);
        due(x.point(0, 0, 0, 1), 1279);
        due(x.point(0, 31, 39, 0), NONE);
        due(x.point(0, 31, 39, 1), 1279);
        due(x.point(0, 31, 39, 2), 40);
        due(x.point(0, 0, 0, 2), 1);
        due(x.point(0, 31, 38, 1), 1279);
    }

    @Says(promise = 14, words = {"STREAM: how many points' water comes through it, with its own", "2 its STREAM"})
    static void promise14_streamOfOneAndOfAll() {
        // Rows that fall to the right and to the left by turns, each led to the next one by a single point: 450 points.
        Sheets x = new Sheets();
        int fallen = 0;
        for (int i = 0; i <= 20; i++) {
            if (i % 2 == 0) x.row(0, i, 40, 0);
            else x.row(0, i, 1, i % 4 == 1 ? 39 : 0);
            for (int k = 0; k < (i % 2 == 0 ? 40 : 1); k++) {
                int j = i % 2 == 1 ? (i % 4 == 1 ? 39 : 0) : i % 4 == 0 ? k : 39 - k;
                x.height(0, i, j, bits(1000 - fallen));
                fallen++;
            }
        }
        due(fallen, 450);
        due(x.point(0, 20, 39, 2), 450);
        due(x.point(0, 0, 0, 2), 1);
        due(x.point(0, 0, 20, 2), 21);
        due(x.point(0, 0, 0, 1), number(20, 39));
        due(x.point(0, 20, 39, 1), number(20, 39));
        due(x.count(0, 2), 1);
        due(x.point(0, 0, 0, 3), 1000 * 1024);
        due(x.point(0, 20, 39, 5), NO_SADDLE);
        due(x.point(0, 0, 0, 5), NO_SADDLE);
    }

    @Says(promise = {14, 15, 18}, words = "NEIGHBOURS: the eight around a point that are THERE")
    static void promise14_rowsDoNotRunIntoOneAnother() {
        Sheets x = new Sheets();
        x.row(0, 0, 40, 0);
        x.row(0, 1, 1, 0);
        x.row(0, 30, 1, 39);
        x.row(0, 31, 40, 0);
        put(x, 0, 0, 39, 9);
        put(x, 0, 1, 0, 1);
        put(x, 0, 31, 0, 9);
        put(x, 0, 30, 39, 1);
        int[][] all = {{0, 39}, {1, 0}, {31, 0}, {30, 39}};
        for (int[] p : all) {
            due(x.point(0, p[0], p[1], 0), NONE);
            due(x.point(0, p[0], p[1], 2), 1);
            due(x.point(0, p[0], p[1], 6), 0);
        }
        put(x, 0, 0, 0, 5);
        put(x, 0, 31, 39, 5);
        for (int[] p : new int[][] {{0, 0}, {31, 39}, {1, 0}, {30, 39}}) due(x.point(0, p[0], p[1], 6), 1);
        due(x.point(0, 0, 39, 6), 0);
        due(x.point(0, 31, 0, 6), 0);
        due(x.point(0, 0, 0, 0), 40);
        due(x.point(0, 31, 39, 0), number(30, 39));
    }

    @Says(promise = 14, words = {"FILLED: the least height to which one must rise on a way over NEIGHBOURS, itself too, to a point at the RIM", "3 FILLED (UNITS)"})
    static void promise14_filledAtTheEnds() {
        Sheets x = new Sheets();
        plain(x, 0, 3, 3, 8192);
        put(x, 0, 1, 1, -8192);
        due(x.point(0, 1, 1, 3), TOP);
        put(x, 0, 2, 2, 8192 - UNIT);
        due(x.point(0, 1, 1, 3), TOP - 1);
        due(x.point(0, 2, 2, 3), TOP - 1);
        due(x.point(0, 0, 0, 3), TOP);
        plain(x, 0, 3, 3, -8192);
        due(x.point(0, 1, 1, 3), -TOP);
        due(x.point(0, 0, 0, 3), -TOP);
        put(x, 0, 1, 1, 8192);
        due(x.point(0, 1, 1, 3), TOP);
        due(x.point(0, 0, 1, 3), -TOP);
    }

    @Says(promise = 14, words = "FILLED: the least height to which one must rise on a way over NEIGHBOURS, itself too, to a point at the RIM")
    static void promise14_filledByAnyOfTheEightWays() {
        for (int[] p : RING) {
            Sheets x = sheet("999", "909", "999");
            put(x, 0, p[0], p[1], 3);
            due(x.point(0, 1, 1, 3), 3 * 1024);
        }
        // A near way over (2, 0) and a far one over 8 to (6, 1): the one on which one must rise less.
        Sheets two = sheet("9999999", "9088889", "6999489", "9999489", "9994449", "9945999", "9999999");
        due(two.point(0, 1, 1, 3), 6 * 1024);
        put(two, 0, 2, 0, 7);
        due(two.point(0, 1, 1, 3), 7 * 1024);
        put(two, 0, 2, 0, 9);
        due(two.point(0, 1, 1, 3), 9 * 1024);
        due(two.point(0, 5, 2, 3), 9 * 1024);
        put(two, 0, 6, 1, 8);
        due(two.point(0, 1, 1, 3), 8 * 1024);
        due(two.point(0, 5, 2, 3), 8 * 1024);
        due(two.point(0, 2, 4, 3), 8 * 1024);
        put(two, 0, 2, 0, 8 - UNIT);
        due(two.point(0, 1, 1, 3), 8 * 1024 - 1);
        due(two.point(0, 5, 2, 3), 8 * 1024);
    }

    @Says(promise = 14, words = "the greatest height for which there is a way over NEIGHBOURS to some point ABOVE it on which nothing is lower")
    static void promise14_saddleByAnyOfTheEightWays() {
        for (int[] p : RING) {
            Sheets x = new Sheets();
            for (int i = 0; i < 5; i++) x.row(0, i, 5, 0);
            put(x, 0, 2, 2, 5);
            put(x, 0, 1 + p[0], 1 + p[1], 2);
            due(x.point(0, 2, 2, 5), NO_SADDLE);
            put(x, 0, 2 * p[0], 2 * p[1], 9);
            due(x.point(0, 2, 2, 5), 2 * 1024);
        }
        // A near way over 1 and a far one over 2 and 3, each to a higher point.
        Sheets two = sheet("7.....", "1.4333", "85...3", "1....2", "7....9");
        due(two.point(0, 2, 0, 5), 2 * 1024);
        put(two, 0, 3, 5, 1 - UNIT);
        due(two.point(0, 2, 0, 5), 1023);
        put(two, 0, 0, 0, 8 + UNIT);
        due(two.point(0, 2, 0, 5), 1024);
        put(two, 0, 3, 5, 1 + UNIT);
        due(two.point(0, 2, 0, 5), 1025);
    }

    @Says(promise = {14, 15}, words = {"A point is at the RIM if it has fewer than eight", "6 how many NEIGHBOURS"})
    static void promise14_sevenNeighboursOrEight() {
        for (int n = 0; n < 9; n++) {
            Sheets x = sheet("999", "909", "999");
            due(x.point(0, 1, 1, 6), 8);
            due(x.point(0, 1, 1, 3), 9 * 1024);
            due(x.point(0, 1, 1, 4), 2);
            due(x.count(0, 5), 8);
            due(x.missing(0, n / 3, n % 3), TRUE);
            if (n != 4) {
                due(x.point(0, 1, 1, 6), 7);
                due(x.point(0, 1, 1, 3), 0);
                due(x.point(0, 1, 1, 4), 0);
            }
            due(x.count(0, 5), 8);
        }
    }

    @Says(promise = 14, words = "6 how many NEIGHBOURS")
    static void promise14_fromNoNeighbourToEight() {
        Sheets x = sheet("...", ".5.", "...");
        for (int n = 0, many = 0; n < 9; n++) {
            if (n != 4) {
                due(x.point(0, 1, 1, 6), many);
                put(x, 0, n / 3, n % 3, n);
                many++;
            }
        }
        due(x.point(0, 1, 1, 6), 8);
    }

    private static final int[][] RING = {{0, 0}, {0, 1}, {0, 2}, {1, 2}, {2, 2}, {2, 1}, {2, 0}, {1, 0}};

    @Says(promise = {14, 15}, words = {"SUMMIT: all eight NEIGHBOURS are there and BELOW", "PASS: all eight are there, and around it ABOVE and BELOW turn into one another four times at least", "4 whether it is SUMMIT 1, PIT that has eight NEIGHBOURS all ABOVE 2, PASS 3, else 0"})
    static void promise14_allTurnsAround() {
        for (int mask = 0; mask < 256; mask++) {
            Sheets x = sheet(SLOPES);
            int turns = 0;
            for (int k = 0; k < 8; k++) {
                put(x, 0, RING[k][0], RING[k][1], (mask >> k & 1) == 1 ? 9 : 0);
                if ((mask >> k & 1) != (mask >> (k + 1) % 8 & 1)) turns++;
            }
            int kind = mask == 0 ? 1 : mask == 255 ? 2 : turns >= 4 ? 3 : 0;
            due(x.point(0, 1, 1, 4), kind);
            due(x.count(0, 3), kind == 1 ? 1 : 0);
            due(x.count(0, 4), kind == 3 ? 1 : 0);
            // With one of the eight missing it is none of these.
            due(x.missing(0, RING[mask % 8][0], RING[mask % 8][1]), TRUE);
            due(x.point(0, 1, 1, 4), 0);
            due(x.count(0, 3), 0);
            due(x.count(0, 4), 0);
        }
    }

    @Says(promise = {14, 15}, words = "POINTS are ordered by height, alike ones by number: ABOVE, BELOW")
    static void promise14_alikeOnesByNumber() {
        Sheets x = sheet("555", "550", "000");
        due(x.point(0, 1, 1, 4), 1);
        x = sheet("555", "555", "000");
        due(x.point(0, 1, 1, 4), 0);
        x = sheet("999", "955", "555");
        due(x.point(0, 1, 1, 4), 2);
        x = sheet("999", "555", "555");
        due(x.point(0, 1, 1, 4), 0);
        x = sheet(SLOPES);
        due(x.point(0, 1, 1, 4), 0);
        // Above at the corners, and by number at the next column and row.
        x = sheet("959", "555", "959");
        due(x.point(0, 1, 1, 4), 3);
        put(x, 0, 2, 0, 5 - UNIT);
        due(x.point(0, 1, 1, 4), 3);
        put(x, 0, 0, 0, 5);
        due(x.point(0, 1, 1, 4), 0);
    }

    @Says(promise = 14, words = {"the greatest height for which there is a way over NEIGHBOURS to some point ABOVE it on which nothing is lower", "5 its SADDLE (UNITS; -8388609 if there is none, or some NEIGHBOUR is ABOVE)"})
    static void promise14_saddleAtTheEnds() {
        Sheets x = sheet("000");
        put(x, 0, 0, 0, -8192 + UNIT);
        put(x, 0, 0, 1, -8192);
        put(x, 0, 0, 2, 8192);
        due(x.point(0, 0, 0, 5), -TOP);
        due(x.point(0, 0, 1, 5), NO_SADDLE);
        due(x.point(0, 0, 2, 5), NO_SADDLE);
        put(x, 0, 0, 0, 8192);
        put(x, 0, 0, 1, 8192 - UNIT);
        due(x.point(0, 0, 0, 5), TOP - 1);
        due(x.point(0, 0, 2, 5), NO_SADDLE);
        // As high as the point itself: the one beside it is alike, but below by its number.
        Sheets y = sheet("655");
        due(y.point(0, 0, 2, 5), 5 * 1024);
        due(y.point(0, 0, 1, 5), NO_SADDLE);
        due(y.point(0, 0, 0, 5), NO_SADDLE);
    }

    @Says(promise = 14, words = {"-8388609 if there is none, or some NEIGHBOUR is ABOVE", "PEAK (counted so only for SADDLE): all its NEIGHBOURS are BELOW"})
    static void promise14_noSaddle() {
        Sheets alone = sheet("5");
        due(alone.point(0, 0, 0, 5), NO_SADDLE);
        due(alone.point(0, 0, 0, 4), 0);
        Sheets apart = sheet("5.6");
        due(apart.point(0, 0, 0, 5), NO_SADDLE);
        due(apart.point(0, 0, 2, 5), NO_SADDLE);
        Sheets ends = new Sheets();
        for (int i = 0; i < 2; i++) ends.row(0, i, 40, 0);
        put(ends, 0, 0, 39, 5);
        put(ends, 0, 1, 0, 6);
        due(ends.point(0, 0, 39, 5), NO_SADDLE);
        Sheets alike = sheet("00000", "07070", "00000");
        due(alike.point(0, 1, 1, 5), 0);
        due(alike.point(0, 1, 3, 5), NO_SADDLE);
        due(alike.point(0, 0, 0, 5), NO_SADDLE);
        Sheets rim = sheet("50306");
        due(rim.point(0, 0, 0, 5), 0);
        due(rim.point(0, 0, 2, 5), 0);
        due(rim.point(0, 0, 2, 4), 0);
        due(rim.count(0, 3), 0);
    }

    // ---- Promise 15: count

    @Says(promise = 15, words = "NONE for others")
    static void promise15_noSuchGridOrWhat() {
        for (int what = 0; what <= 5; what++) {
            int w = what;
            for (int g : NO_GRID) refusedIn(USED, NONE, x -> x.count(g, w));
            changesNothing(USED, x -> x.count(0, w));
        }
        for (int what : new int[] {-1, 6, MIN, MAX}) for (int g = -1; g <= 4; g++) {
            int h = g;
            refusedIn(USED, NONE, x -> x.count(h, what));
        }
        refused(NONE, x -> x.count(4, 0));
        refused(NONE, x -> x.count(0, 6));
    }

    @Says(promise = 15, words = "Of a grid: 0 points THERE, 1 WHOLE cells, 2 PITS, 3 SUMMITS, 4 PASSES, 5 points at the RIM")
    static void promise15_emptyGridsAndOnePoint() {
        Sheets x = new Sheets();
        for (int i = 0; i < 32; i++) x.row(3, i, 40, 0);
        for (int i = 0; i < 32; i++) x.row(2, i, 0, 39);
        for (int g = 0; g < 4; g++) for (int what = 0; what <= 5; what++) due(x.count(g, what), 0);
        put(x, 3, 31, 39, -8192);
        long[] want = {1, 0, 1, 0, 0, 1};
        for (int what = 0; what <= 5; what++) due(x.count(3, what), want[what]);
        due(x.missing(3, 31, 39), TRUE);
        for (int what = 0; what <= 5; what++) due(x.count(3, what), 0);
    }

    @Says(promise = 15, words = "Of a grid: 0 points THERE, 1 WHOLE cells, 2 PITS, 3 SUMMITS, 4 PASSES, 5 points at the RIM")
    static void promise15_rowsFromEndToEnd() {
        // 480 points, with the rows: as many as an object's calls can make.
        for (int i0 : new int[] {0, 20}) {
            Sheets x = new Sheets();
            for (int i = i0; i < i0 + 12; i++) {
                x.row(0, i, 40, 0);
                for (int j = 0; j < 40; j++) x.height(0, i, j, 0);
            }
            long[] want = {480, 39 * 11, 480, 0, 0, 100};
            for (int what = 0; what <= 5; what++) due(x.count(0, what), want[what]);
        }
    }

    @Says(promise = 15, words = "1 WHOLE cells")
    static void promise15_wholeCellsOfUnequalRows() {
        Sheets x = new Sheets();
        x.row(0, 0, 3, 0);
        x.row(0, 1, 3, 2);
        x.row(0, 2, 0, 0);
        x.row(0, 3, 40, 0);
        for (int j = 0; j < 3; j++) {
            put(x, 0, 0, j, 1);
            put(x, 0, 1, j + 2, 1);
        }
        put(x, 0, 3, 0, 1);
        due(x.count(0, 1), 0);
        x.row(0, 1, 3, 1);
        for (int j = 0; j < 3; j++) put(x, 0, 1, j + 1, 1);
        due(x.count(0, 1), 1);
    }

    // ---- Promise 16: volume

    @Says(promise = 16, words = "NONE for others")
    static void promise16_noSuchGridHeightOrWhat() {
        for (int what = 0; what <= 1; what++) {
            int w = what;
            for (int g : NO_GRID) refused(NONE, x -> x.volume(g, 0, w));
            for (int mm : new int[] {-8193, 8193, MIN, MAX}) refused(NONE, x -> x.volume(0, mm, w));
            changesNothing(USED, x -> x.volume(0, 1, w));
        }
        for (int what : new int[] {-1, 2, MIN, MAX}) refused(NONE, x -> x.volume(0, 0, what));
    }

    @Says(promise = 16, words = "against a height in whole millimetres (-8192 .. 8192)")
    static void promise16_lowestAndHighest() {
        Sheets x = new Sheets();
        plain(x, 0, 2, 2, -8192);
        due(x.volume(0, -8192, 0), 0);
        due(x.volume(0, -8192, 1), 0);
        due(x.volume(0, 8192, 0), 0);
        due(x.volume(0, 8192, 1), 8L * TOP);
        plain(x, 0, 2, 2, 8192);
        due(x.volume(0, -8192, 0), 8L * TOP);
        due(x.volume(0, -8192, 1), 0);
        due(x.volume(0, 8192, 0), 0);
        due(x.volume(0, 8192, 1), 0);
        due(x.volume(0, -8191, 0), 4L * 16383 * 1024);
    }

    @Says(promise = 16, words = {"those above 0 together (what 0: cut), those below, without sign (1: fill)", "four heights (UNITS) together less four times that"})
    static void promise16_justAtTheHeight() {
        Sheets x = sheet("44", "66");
        due(x.volume(0, 5, 0), 0);
        due(x.volume(0, 5, 1), 0);
        put(x, 0, 0, 0, 4 + UNIT);
        due(x.volume(0, 5, 0), 1);
        due(x.volume(0, 5, 1), 0);
        put(x, 0, 0, 0, 4 - UNIT);
        due(x.volume(0, 5, 0), 0);
        due(x.volume(0, 5, 1), 1);
        // A cell above and one below do not make up for one another.
        Sheets y = sheet("029", "029");
        due(y.volume(0, 3, 0), 10 * 1024);
        due(y.volume(0, 3, 1), 8 * 1024);
    }

    @Says(promise = 16, words = "Of all WHOLE cells")
    static void promise16_noWholeCells() {
        Sheets x = new Sheets();
        for (int what = 0; what <= 1; what++) {
            due(x.volume(0, 8192, what), 0);
            due(x.volume(3, -8192, what), 0);
        }
        draw(x, 0, 0, 0, "999", "9.9", "999");
        for (int what = 0; what <= 1; what++) {
            due(x.volume(0, 8192, what), 0);
            due(x.volume(0, -8192, what), 0);
        }
    }

    @Says(promise = 16, words = "Of all WHOLE cells")
    static void promise16_moreThanAnInt() {
        Sheets x = new Sheets();
        plain(x, 0, 20, 20, -8192);
        due(x.volume(0, 8192, 1), 361L * 8 * TOP);
        due(x.volume(0, 8192, 0), 0);
        Sheets y = new Sheets();
        plain(y, 0, 20, 20, 8192);
        due(y.volume(0, -8192, 0), 361L * 8 * TOP);
        due(y.volume(0, -8192, 1), 0);
    }

    // ---- Promise 17: seen

    @Says(promise = 17, words = "NONE: no such grid, eye, or a point isn't THERE")
    static void promise17_noSuchGridOrEye() {
        for (int g : NO_GRID) refused(NONE, x -> x.seen(g, 0, 0, 0, 0, 0));
        for (int eye : new int[] {-1, 8193, MIN, MAX}) {
            refused(NONE, x -> x.seen(0, 0, 0, 0, 0, eye));
            refused(NONE, x -> x.seen(0, 0, 0, 4, 4, eye));
        }
        changesNothing(USED, x -> x.seen(0, 0, 0, 4, 4, 0));
    }

    @Says(promise = 17, words = "NONE: no such grid, eye, or a point isn't THERE")
    static void promise17_notThere() {
        for (int i : NO_ROW) {
            refusedIn(USED, NONE, x -> x.seen(0, i, 0, 0, 0, 0));
            refusedIn(USED, NONE, x -> x.seen(0, 0, 0, i, 0, 0));
        }
        for (int j : NO_COLUMN) {
            refusedIn(USED, NONE, x -> x.seen(0, 0, j, 0, 0, 0));
            refusedIn(USED, NONE, x -> x.seen(0, 0, 0, 0, j, 0));
        }
        refusedIn(USED, NONE, x -> x.seen(0, 1, 1, 0, 0, 0));
        refusedIn(USED, NONE, x -> x.seen(0, 0, 0, 1, 1, 0));
        refusedIn(USED, NONE, x -> x.seen(0, 1, 1, 1, 1, 0));
        refusedIn(NEW, NONE, x -> x.seen(0, 0, 0, 0, 0, 0));
    }

    @Says(promise = 17, words = "Whether from the height eye (0 .. 8192) above one point the other one is seen: 1, 0")
    static void promise17_lowestAndHighestEye() {
        Sheets x = sheet("000");
        due(x.seen(0, 0, 0, 0, 2, 0), 1);
        due(x.seen(0, 0, 0, 0, 2, 8192), 1);
        put(x, 0, 0, 1, 4096);
        due(x.seen(0, 0, 0, 0, 2, 8191), 0);
        due(x.seen(0, 0, 0, 0, 2, 8192), 1);
        put(x, 0, 0, 1, 4096 + UNIT);
        due(x.seen(0, 0, 0, 0, 2, 8192), 0);
        // The eye as high as can be, the other point as low as can be.
        put(x, 0, 0, 0, 8192);
        put(x, 0, 0, 2, -8192);
        put(x, 0, 0, 1, 4096);
        due(x.seen(0, 0, 0, 0, 2, 8192), 1);
        put(x, 0, 0, 1, 4096 + UNIT);
        due(x.seen(0, 0, 0, 0, 2, 8192), 0);
        put(x, 0, 0, 1, 8192);
        due(x.seen(0, 0, 2, 0, 0, 8192), 0);
        put(x, 0, 0, 1, 4096);
        due(x.seen(0, 0, 2, 0, 0, 8192), 1);
        put(x, 0, 0, 1, 4096 + UNIT);
        due(x.seen(0, 0, 2, 0, 0, 8192), 0);
    }

    @Says(promise = 17, words = "is not above the straight line from the eye to the other point's ground")
    static void promise17_justOnTheLine() {
        // From (0, 0) to (1, 3): in column 1 the ground is two thirds of 3 and a third of 0, in column 2 the other way.
        Sheets x = sheet("0300", "0000");
        due(x.seen(0, 0, 0, 1, 3, 2), 0);
        due(x.seen(0, 0, 0, 1, 3, 3), 1);
        put(x, 0, 0, 1, 3 + UNIT);
        due(x.seen(0, 0, 0, 1, 3, 3), 0);
        put(x, 0, 0, 1, 3 - UNIT);
        put(x, 0, 1, 1, UNIT);
        due(x.seen(0, 0, 0, 1, 3, 3), 1);
        put(x, 0, 1, 1, 2 * UNIT);
        due(x.seen(0, 0, 0, 1, 3, 3), 1);
        put(x, 0, 1, 1, 3 * UNIT);
        due(x.seen(0, 0, 0, 1, 3, 3), 0);
        // The same turned by rows.
        Sheets y = sheet("00", "30", "00", "00");
        due(y.seen(0, 0, 0, 3, 1, 2), 0);
        due(y.seen(0, 0, 0, 3, 1, 3), 1);
        put(y, 0, 1, 0, 3 + UNIT);
        due(y.seen(0, 0, 0, 3, 1, 3), 0);
    }

    @Says(promise = 17, words = "at each row and column strictly between")
    static void promise17_nothingBetween() {
        Sheets x = new Sheets();
        plain(x, 0, 3, 3, 8192);
        put(x, 0, 1, 1, -8192);
        for (int n = 0; n < 9; n++) due(x.seen(0, 1, 1, n / 3, n % 3, 0), 1);
        for (int n = 0; n < 9; n++) due(x.seen(0, n / 3, n % 3, 1, 1, 0), 1);
        for (int n = 0; n < 9; n++) due(x.seen(0, n / 3, n % 3, n / 3, n % 3, 0), 1);
        // A row apart, two columns apart: only the column between counts, half way between its two points.
        Sheets y = sheet("0.0", "9.9");
        due(y.seen(0, 0, 0, 1, 2, 0), 1);
        put(y, 0, 0, 1, 9);
        put(y, 0, 1, 1, 0);
        due(y.seen(0, 0, 0, 1, 2, 0), 1);
        put(y, 0, 1, 1, UNIT);
        due(y.seen(0, 0, 0, 1, 2, 0), 0);
    }

    @Says(promise = 17, words = "ground (between the two points around that place, by a straight line; where one isn't THERE there is none)")
    static void promise17_whereOneIsMissing() {
        Sheets x = sheet("000", "090", "000");
        draw(x, 0, 0, 0, "090", "090", "000");
        due(x.seen(0, 0, 0, 1, 2, 0), 0);
        due(x.missing(0, 0, 1), TRUE);
        due(x.seen(0, 0, 0, 1, 2, 0), 1);
        put(x, 0, 0, 1, 9);
        due(x.missing(0, 1, 1), TRUE);
        due(x.seen(0, 0, 0, 1, 2, 0), 1);
        // On a point itself that point is the ground, whether the next ones are there or not.
        due(x.seen(0, 0, 0, 0, 2, 0), 0);
        due(x.missing(0, 0, 1), TRUE);
        due(x.seen(0, 0, 0, 0, 2, 0), 1);
        put(x, 0, 1, 1, 9);
        due(x.seen(0, 0, 0, 2, 2, 0), 0);
        due(x.missing(0, 1, 1), TRUE);
        due(x.seen(0, 0, 0, 2, 2, 0), 1);
    }

    @Says(promise = 17, words = "at each row and column strictly between")
    static void promise17_fromEndToEndOfARowAndOfAColumn() {
        Sheets x = new Sheets();
        x.row(0, 0, 40, 0);
        for (int j = 0; j < 40; j++) put(x, 0, 0, j, -8192);
        due(x.seen(0, 0, 0, 0, 39, 0), 1);
        due(x.seen(0, 0, 39, 0, 0, 0), 1);
        for (int j : new int[] {1, 20, 38}) {
            put(x, 0, 0, j, -8192 + UNIT);
            due(x.seen(0, 0, 0, 0, 39, 0), 0);
            due(x.seen(0, 0, 39, 0, 0, 0), 0);
            put(x, 0, 0, j, -8192);
        }
        Sheets y = new Sheets();
        for (int i = 0; i < 32; i++) {
            y.row(0, i, 1, 39);
            put(y, 0, i, 39, 8192);
        }
        due(y.seen(0, 0, 39, 31, 39, 0), 1);
        due(y.seen(0, 31, 39, 0, 39, 0), 1);
        put(y, 0, 0, 39, 8192 - UNIT);
        due(y.seen(0, 0, 39, 31, 39, 0), 0);
        due(y.seen(0, 31, 39, 0, 39, 0), 0);
        due(y.seen(0, 0, 39, 1, 39, 0), 1);
    }

    @Says(promise = 17, words = {"at each row and column strictly between", "between the two points around that place, by a straight line"})
    static void promise17_fromCornerToCorner() {
        // 31 rows and 39 columns have no common part, so the line meets no point: each place has two points around it.
        Sheets x = new Sheets();
        for (int i = 0; i < 32; i++) x.row(0, i, 40, 0);
        put(x, 0, 0, 0, 0);
        put(x, 0, 31, 39, 0);
        for (int i = 1; i < 31; i++) for (int up = 0; up < 2; up++) x.height(0, i, 39 * i / 31 + up, 0);
        for (int j = 1; j < 39; j++) for (int up = 0; up < 2; up++) x.height(0, 31 * j / 39 + up, j, 0);
        due(x.seen(0, 0, 0, 31, 39, 0), 1);
        due(x.seen(0, 31, 39, 0, 0, 0), 1);
        for (int i : new int[] {1, 15, 30}) {
            for (int up = 0; up < 2; up++) {
                int j = 39 * i / 31 + up;
                put(x, 0, i, j, UNIT);
                due(x.seen(0, 0, 0, 31, 39, 0), 0);
                due(x.seen(0, 31, 39, 0, 0, 0), 0);
                due(x.missing(0, i, j), TRUE);
                due(x.seen(0, 0, 0, 31, 39, 0), 1);
                put(x, 0, i, j, 0);
            }
        }
        for (int j : new int[] {1, 20, 38}) {
            for (int up = 0; up < 2; up++) {
                int i = 31 * j / 39 + up;
                put(x, 0, i, j, UNIT);
                due(x.seen(0, 0, 0, 31, 39, 0), 0);
                put(x, 0, i, j, 0);
            }
        }
        due(x.seen(0, 0, 0, 31, 39, 0), 1);
    }

    // ---- Promise 18: smooth

    @Says(promise = 18, words = "False, changing nothing: no such grids, or weight (1 .. 1000)")
    static void promise18_noSuchGrids() {
        for (int g : NO_GRID) {
            refused(FALSE, x -> x.smooth(g, 0, 1));
            refused(FALSE, x -> x.smooth(0, g, 1));
            refused(FALSE, x -> x.smooth(g, g, 1000));
        }
    }

    @Says(promise = 18, words = "False, changing nothing: no such grids, or weight (1 .. 1000)")
    static void promise18_noSuchWeight() {
        for (int weight : new int[] {0, 1001, -1, MIN, MAX}) {
            refused(FALSE, x -> x.smooth(0, 0, weight));
            refused(FALSE, x -> x.smooth(0, 3, weight));
            refused(FALSE, x -> x.smooth(3, 0, weight));
        }
    }

    @Says(promise = 18, words = {"each point THERE with (weight * its own UNITS + those of its NEIGHBOURS in its row or column) by weight and their number, to the nearest whole, a half to the even one: true"})
    static void promise18_leastAndGreatestWeight() {
        Sheets x = new Sheets();
        plain(x, 0, 3, 3, -8192);
        put(x, 0, 1, 1, 8192);
        due(x.smooth(0, 1, 1), TRUE);
        due(x.at(1, 1, 1), bits(-5033165 * UNIT));
        due(x.at(1, 0, 1), bits(-4194304 * UNIT));
        due(x.at(1, 0, 0), bits(-8192));
        due(x.smooth(0, 2, 1000), TRUE);
        due(x.at(2, 1, 1), bits(8321767 * UNIT));
        due(x.at(2, 0, 1), bits(-8371881 * UNIT));
        due(x.at(2, 0, 0), bits(-8192));
        due(x.smooth(0, 3, 999), TRUE);
    }

    @Says(promise = 18, words = "to the nearest whole, a half to the even one")
    static void promise18_aHalfToTheEvenOne() {
        for (int a = -9; a <= 9; a++) {
            for (int b : new int[] {0, 1, -4}) {
                Sheets x = sheet("00");
                put(x, 0, 0, 0, a * UNIT);
                put(x, 0, 0, 1, b * UNIT);
                due(x.smooth(0, 0, 1), TRUE);
                int want = bits(Math.rint((a + b) / 2.0) * UNIT + 0.0);
                due(x.at(0, 0, 0), want);
                due(x.at(0, 0, 1), want);
            }
        }
        // By three and one: quarters, of which just the half goes to the even one.
        int[][] quarters = {{0, 1, 0}, {0, 2, 0}, {0, 3, 1}, {1, 2, 1}, {1, 3, 2}, {0, 6, 2}, {0, 10, 2}, {0, -1, 0}, {0, -2, 0}, {0, -3, -1}, {0, -6, -2}, {0, -10, -2}};
        for (int[] q : quarters) {
            Sheets x = sheet("00");
            put(x, 0, 0, 0, q[0] * UNIT);
            put(x, 0, 0, 1, q[1] * UNIT);
            x.smooth(0, 0, 3);
            due(x.at(0, 0, 0), bits(q[2] * UNIT));
        }
    }

    @Says(promise = {18, 6}, words = "(-0 is 0)")
    static void promise18_zeroWithoutSign() {
        Sheets x = sheet("00");
        put(x, 0, 0, 1, -UNIT);
        x.smooth(0, 0, 1);
        due(x.at(0, 0, 0), 0);
        due(x.at(0, 0, 1), 0);
    }

    @Says(promise = 18, words = "those of its NEIGHBOURS in its row or column")
    static void promise18_neighboursInItsRowOrColumn() {
        Sheets alone = sheet("9.9", ".5.", "9.9");
        due(alone.smooth(0, 0, 1), TRUE);
        due(alone.at(0, 1, 1), bits(5));
        due(alone.at(0, 0, 0), bits(9));
        Sheets ends = new Sheets();
        for (int i = 0; i < 32; i += 31) {
            ends.row(0, i, 40, 0);
            put(ends, 0, i, 0, 8192);
            put(ends, 0, i, 39, -8192);
        }
        ends.row(0, 1, 1, 0);
        put(ends, 0, 1, 0, 8192);
        due(ends.smooth(0, 0, 1), TRUE);
        due(ends.at(0, 0, 0), bits(8192));
        due(ends.at(0, 0, 39), bits(-8192));
        due(ends.at(0, 1, 0), bits(8192));
        due(ends.at(0, 31, 0), bits(8192));
        due(ends.at(0, 31, 39), bits(-8192));
        for (int many = 1; many <= 4; many++) {
            int[][] beside = {{0, 1}, {1, 0}, {1, 2}, {2, 1}};
            Sheets x = sheet("...", ".0.", "...");
            for (int k = 0; k < many; k++) put(x, 0, beside[k][0], beside[k][1], (many + 1) * UNIT);
            x.smooth(0, 1, 1);
            due(x.at(1, 1, 1), bits(many * UNIT));
        }
    }

    @Says(promise = 18, words = "Grid to (another one, or itself) becomes what g is")
    static void promise18_anotherOneOrItself() {
        Sheets x = new Sheets();
        draw(x, 0, 3, 5, "17", "4.", "092");
        draw(x, 1, 0, 0, "5555", "5555");
        x.row(0, 31, 3, 37);
        x.row(0, 30, 0, 39);
        x.row(1, 30, 40, 0);
        x.spacing(0, 77);
        due(x.smooth(0, 1, 2), TRUE);
        due(x.at(0, 3, 5), bits(1));
        due(x.at(0, 3, 6), bits(7));
        due(x.smooth(0, 0, 2), TRUE);
        for (int g = 0; g < 2; g++) {
            due(x.count(g, 0), 6);
            due(x.at(g, 0, 0), NOT_THERE);
            due(x.at(g, 4, 6), NOT_THERE);
            due(x.at(g, 3, 5), bits(Math.rint(13 * 1024 / 4.0) / 1024));
            due(x.at(g, 3, 6), bits(5));
            due(x.at(g, 4, 5), bits(Math.rint(9 * 1024 / 4.0) / 1024));
            due(x.at(g, 5, 5), bits(Math.rint(13 * 1024 / 4.0) / 1024));
            due(x.at(g, 5, 6), bits(5));
            due(x.at(g, 5, 7), bits(Math.rint(13 * 1024 / 3.0) / 1024));
            due(x.height(g, 31, 36, 0), FALSE);
            due(x.height(g, 31, 37, 0), TRUE);
            due(x.height(g, 30, 39, 0), FALSE);
            due(x.height(g, 0, 0, 0), FALSE);
            due(x.height(g, 4, 6, 0), TRUE);
        }
        x.level(1);
        draw(x, 1, 0, 0, "00", "09");
        due(x.contour(1) > 0 ? 1 : 0, 1);
        due(x.place(0, 0, 1), place(77));
    }

    @Says(promise = 18, words = "Grid to (another one, or itself) becomes what g is")
    static void promise18_anEmptyGrid() {
        Sheets x = made(USED);
        for (int i = 0; i < 32; i++) x.row(1, i, 0, 0);
        due(x.smooth(1, 0, 1000), TRUE);
        due(x.count(0, 0), 0);
        for (int i = 0; i < 5; i++) for (int j = 0; j < 5; j++) due(x.height(0, i, j, 0), FALSE);
        due(new Sheets().smooth(0, 3, 1), TRUE);
        changesNothing(NEW, y -> y.smooth(0, 3, 1));
        changesNothing(NEW, y -> y.smooth(2, 2, 1000));
    }

    // ---- Promise 19: difference

    @Says(promise = 19, words = "NONE, changing nothing: no such grids")
    static void promise19_noSuchGrids() {
        for (int g : NO_GRID) {
            refused(NONE, x -> x.difference(g, 0, 1));
            refused(NONE, x -> x.difference(0, g, 1));
            refused(NONE, x -> x.difference(0, 1, g));
            refused(NONE, x -> x.difference(g, g, g));
        }
    }

    @Says(promise = 19, words = "how many of these are beyond what a height may be (they are MISSING)")
    static void promise19_justWithinAndJustBeyond() {
        double[][] pairs = {{8192, 0, 0}, {8192, -UNIT, 1}, {8192 - UNIT, -UNIT, 0}, {-8192, 0, 0}, {-8192, UNIT, 1}, {UNIT - 8192, UNIT, 0},
            {8192, -8192, 1}, {-8192, 8192, 1}, {8192, 8192, 0}, {-8192, -8192, 0}, {4096, -4096, 0}, {4096, -4096 - UNIT, 1}, {-4096, 4096, 0}, {-4096 - UNIT, 4096, 1}};
        for (double[] p : pairs) {
            Sheets x = new Sheets();
            for (int g = 0; g < 2; g++) {
                x.row(g, 31, 1, 39);
                put(x, g, 31, 39, p[g]);
            }
            due(x.difference(0, 1, 2), (long) p[2]);
            due(x.at(2, 31, 39), p[2] == 1 ? NOT_THERE : bits(p[0] - p[1]));
            due(x.count(2, 0), 1 - (long) p[2]);
            due(x.height(2, 31, 39, bits(7)), TRUE);
        }
    }

    @Says(promise = 19, words = "how many of these are beyond what a height may be (they are MISSING)")
    static void promise19_allBeyond() {
        Sheets x = new Sheets();
        plain(x, 0, 5, 40, 8192);
        plain(x, 1, 5, 40, -8192);
        due(x.difference(0, 1, 3), 200);
        due(x.count(3, 0), 0);
        due(x.difference(1, 0, 1), 200);
        due(x.count(1, 0), 0);
        due(x.difference(0, 1, 1), 0);
        due(x.count(1, 0), 0);
        due(x.height(1, 4, 39, 0), TRUE);
    }

    @Says(promise = 19, words = "Grid to becomes the difference of g and h, where both are THERE (rows as g's)")
    static void promise19_whereBothAreThere() {
        Sheets x = new Sheets();
        draw(x, 0, 0, 0, "98.7", "6");
        draw(x, 1, 0, 1, "12.", "34");
        draw(x, 2, 5, 5, "999");
        due(x.difference(0, 1, 2), 0);
        due(x.count(2, 0), 1);
        due(x.at(2, 0, 1), bits(7));
        due(x.at(2, 5, 5), NOT_THERE);
        due(x.height(2, 5, 5, 0), FALSE);
        due(x.height(2, 0, 3, 0), TRUE);
        due(x.height(2, 0, 4, 0), FALSE);
        due(x.height(2, 1, 0, 0), TRUE);
        due(x.height(2, 1, 1, 0), FALSE);
        due(x.at(0, 0, 0), bits(9));
        due(x.at(1, 1, 2), bits(4));
    }

    @Says(promise = 19, words = "Grid to becomes the difference of g and h, where both are THERE (rows as g's)")
    static void promise19_emptyGrids() {
        changesNothing(NEW, x -> x.difference(0, 3, 1));
        changesNothing(NEW, x -> x.difference(2, 2, 2));
        Sheets x = sheet("12", "34");
        due(x.difference(0, 1, 2), 0);
        due(x.count(2, 0), 0);
        due(x.height(2, 1, 1, 0), TRUE);
        due(x.height(2, 1, 2, 0), FALSE);
        due(x.difference(1, 0, 0), 0);
        due(x.count(0, 0), 0);
        due(x.height(0, 0, 0, 0), FALSE);
    }

    @Says(promise = 19, words = {"Grid to becomes the difference of g and h", "SPACING as g's"})
    static void promise19_ontoEitherOfThem() {
        for (int to = 0; to < 3; to++) {
            Sheets x = new Sheets();
            draw(x, 0, 0, 0, "11", "19");
            draw(x, 1, 0, 0, "111", "101", "111");
            draw(x, 2, 0, 0, "5555");
            x.spacing(0, 1);
            x.spacing(1, 22);
            x.spacing(2, 33);
            due(x.difference(0, 1, to), 0);
            long[] want = {0, 0, 0, bits(9)};
            for (int n = 0; n < 4; n++) due(x.at(to, n / 2, n % 2), want[n]);
            due(x.count(to, 0), 4);
            due(x.height(to, 2, 0, 0), FALSE);
            x.level(3);
            due(x.contour(to), 1);
            due(x.place(0, 0, 0), place(3 / 9.0));
            due(x.place(0, 0, 1), place(1));
        }
        Sheets same = sheet("19", "..");
        due(same.difference(0, 0, 0), 0);
        due(same.at(0, 0, 0), 0);
        due(same.at(0, 0, 1), 0);
        due(same.count(0, 0), 2);
    }

    @Says(promise = {19, 6}, words = "(-0 is 0)")
    static void promise19_zeroWithoutSign() {
        Sheets x = sheet("5");
        put(x, 0, 0, 0, -5);
        due(x.difference(0, 0, 1), 0);
        due(x.at(1, 0, 0), 0);
    }
}
