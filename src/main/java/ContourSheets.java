import java.util.Arrays;

/** Contour sheets of grids of heights. The document's promises are told by their numbers. */
public final class ContourSheets {
    public static final int NONE = -1;

    private static final int GRIDS = 4;
    private static final int ROWS = 32;
    private static final int COLUMNS = 40;
    private static final int POINTS = ROWS * COLUMNS;
    private static final int SIDES = 2 * POINTS;
    private static final int MOST_LEVELS = 16;
    private static final int MOST_LINES = 400;
    private static final int MOST_LINE_SIDES = 8000;
    private static final int FIRST_SPACING = 1000;
    private static final int MOST_SPACING = 100000;
    private static final int MOST_WEIGHT = 1000;
    private static final int MM = 1024;
    private static final int TOP_MM = 8192;
    private static final int TOP = TOP_MM * MM;

    private static final int GAP = Integer.MIN_VALUE;
    private static final int NOT_THERE = 2147483647;
    private static final int NO_SADDLE = -8388609;
    private static final int NO_ANSWER = -8388610;

    private static final int PLAIN = 0;
    private static final int SUMMIT = 1;
    private static final int HOLLOW = 2;
    private static final int PASS = 3;

    /** The eight ways to a neighbour, going around: the odd ones are beside the point, the even ones aslant. */
    private static final int WAYS = 8;
    private static final int[] ROW_STEP = {-1, -1, -1, 0, 1, 1, 1, 0};
    private static final int[] COLUMN_STEP = {-1, 0, 1, 1, 1, 0, -1, -1};

    private final Grid[] grids;
    private final int[] levelMm;
    private int levelCount;
    private final Water water;
    private final int[] scratch;
    private final Lines lines;

    /** Promise 1. All room is made here, that of the lines too, so that no later call makes any. */
    public ContourSheets() {
        grids = new Grid[GRIDS];
        for (int g = 0; g < GRIDS; g++) {
            grids[g] = new Grid();
        }
        levelMm = new int[MOST_LEVELS];
        levelCount = 0;
        water = new Water();
        scratch = new int[POINTS];
        lines = new Lines();
    }

    /** Promise 2. */
    public boolean spacing(int g, int mm) {
        Grid grid = gridOf(g);
        if (grid == null || mm < 1 || mm > MOST_SPACING) {
            return false;
        }
        grid.step = mm;
        return true;
    }

    /** Promise 3. */
    public boolean row(int g, int i, int length, int offset) {
        Grid grid = gridOf(g);
        if (grid == null || i < 0 || i >= ROWS || offset < 0 || offset >= COLUMNS) {
            return false;
        }
        if (length < 0 || length > COLUMNS - offset) {
            return false;
        }
        grid.setRow(i, length, offset);
        return true;
    }

    /** Promise 4. */
    public boolean height(int g, int i, int j, int bits) {
        Grid grid = gridOf(g);
        int units = Bits.unitsOfFloat(bits);
        if (grid == null || units == GAP || !grid.isInRow(i, j)) {
            return false;
        }
        grid.put(COLUMNS * i + j, units);
        return true;
    }

    /** Promise 5. */
    public boolean missing(int g, int i, int j) {
        Grid grid = gridOf(g);
        if (grid == null || !grid.has(i, j)) {
            return false;
        }
        grid.put(COLUMNS * i + j, GAP);
        return true;
    }

    /** Promise 6. */
    public int at(int g, int i, int j) {
        Grid grid = gridOf(g);
        if (grid == null || !grid.has(i, j)) {
            return NOT_THERE;
        }
        return Bits.floatOfUnits(grid.unitsOf(COLUMNS * i + j));
    }

    /** Promise 7. */
    public int level(int mm) {
        if (mm < -TOP_MM || mm > TOP_MM || levelCount < 0 || levelCount >= MOST_LEVELS) {
            return NONE;
        }
        if (levelCount > 0 && mm <= levelMm[levelCount - 1]) {
            return NONE;
        }
        levelMm[levelCount] = mm;
        levelCount++;
        return levelCount;
    }

    /** Promise 8. */
    public void levels() {
        levelCount = 0;
    }

    /** Promise 9. */
    public int contour(int g) {
        Grid grid = gridOf(g);
        if (grid == null) {
            return NONE;
        }
        lines.draw(grid, levelMm, levelCount);
        return lines.size;
    }

    /** Promise 10. */
    public int line(int k, int what) {
        if (!lines.has(k)) {
            return NONE;
        }
        switch (what) {
            case 0:
                return lines.levelOf(k);
            case 1:
                return lines.lengthOf(k);
            case 2:
                return lines.isClosed(k) ? 1 : 0;
            case 3:
                return lines.parentOf(k);
            case 4:
                return lines.pointsInside(k);
            case 5:
                return lines.highInside(k);
            default:
                return NONE;
        }
    }

    /** Promise 11. */
    public int side(int k, int i) {
        return lines.sideOf(k, i);
    }

    /** Promise 12. */
    public long place(int k, int i, int axis) {
        if (axis < 0 || axis > 1) {
            return 0L;
        }
        int side = lines.sideOf(k, i);
        return side == NONE ? 0L : lines.placeOf(side, lines.levelUnits(k), axis);
    }

    /** Promise 13. */
    public int inside(int k, int i, int j) {
        if (!lines.isClosed(k) || i < 0 || i >= ROWS || j < 0 || j >= COLUMNS) {
            return NONE;
        }
        return lines.holds(k, i, j) ? 1 : 0;
    }

    /** Promise 14. */
    public int point(int g, int i, int j, int what) {
        Grid grid = gridOf(g);
        if (grid == null || !grid.has(i, j)) {
            return NO_ANSWER;
        }
        int n = COLUMNS * i + j;
        switch (what) {
            case 0:
                return Water.downFrom(grid, n);
            case 1:
                return Water.basinOf(grid, n);
            case 2:
                return water.streamAt(grid, n);
            case 3:
                return water.filled(grid, n);
            case 4:
                return grid.kindOf(n);
            case 5:
                return grid.isPeak(n) ? water.saddle(grid, n) : NO_SADDLE;
            case 6:
                return grid.neighbourCount(n);
            default:
                return NO_ANSWER;
        }
    }

    /** Promise 15. */
    public int count(int g, int what) {
        Grid grid = gridOf(g);
        if (grid == null || what < 0 || what > 5) {
            return NONE;
        }
        int found = 0;
        for (int n = 0; n < POINTS; n++) {
            if (grid.isThere(n) && isCounted(grid, n, what)) {
                found++;
            }
        }
        return found;
    }

    /** Promise 16. */
    public long volume(int g, int mm, int what) {
        Grid grid = gridOf(g);
        if (grid == null || mm < -TOP_MM || mm > TOP_MM || what < 0 || what > 1) {
            return NONE;
        }
        long sign = what == 0 ? 1L : -1L;
        long sum = 0L;
        for (int n = 0; n < POINTS; n++) {
            if (grid.isWhole(n)) {
                long over = sign * (grid.cellSum(n) - 4L * MM * mm);
                sum += over > 0L ? over : 0L;
            }
        }
        return sum;
    }

    /** Promise 17. */
    public int seen(int g, int i, int j, int i2, int j2, int eye) {
        Grid grid = gridOf(g);
        if (grid == null || eye < 0 || eye > TOP_MM || !grid.has(i, j) || !grid.has(i2, j2)) {
            return NONE;
        }
        int from = COLUMNS * i + j;
        int to = COLUMNS * i2 + j2;
        boolean hidden = Sight.isHidden(grid, from, to, eye, true) || Sight.isHidden(grid, from, to, eye, false);
        return hidden ? 0 : 1;
    }

    /** Promise 18. */
    public boolean smooth(int g, int to, int weight) {
        Grid source = gridOf(g);
        Grid target = gridOf(to);
        if (source == null || target == null || weight < 1 || weight > MOST_WEIGHT) {
            return false;
        }
        // Source and target may be one grid: no point may change before all are reckoned.
        for (int n = 0; n < POINTS; n++) {
            scratch[n] = source.isThere(n) ? source.smoothed(n, weight) : GAP;
        }
        target.takeShape(source);
        for (int n = 0; n < POINTS; n++) {
            target.put(n, scratch[n]);
        }
        return true;
    }

    /** Promise 19. */
    public int difference(int g, int h, int to) {
        Grid left = gridOf(g);
        Grid right = gridOf(h);
        Grid target = gridOf(to);
        if (left == null || right == null || target == null) {
            return NONE;
        }
        int beyond = 0;
        for (int n = 0; n < POINTS; n++) {
            boolean both = left.isThere(n) && right.isThere(n);
            int units = both ? left.unitsOf(n) - right.unitsOf(n) : GAP;
            if (both && (units < -TOP || units > TOP)) {
                beyond++;
                units = GAP;
            }
            target.put(n, units);
        }
        target.takeShape(left);
        return beyond;
    }

    private Grid gridOf(int g) {
        return g < 0 || g >= GRIDS ? null : grids[g];
    }

    private static boolean isCounted(Grid grid, int n, int what) {
        switch (what) {
            case 0:
                return true;
            case 1:
                return grid.isWhole(n);
            case 2:
                return Water.downFrom(grid, n) == NONE;
            case 3:
                return grid.kindOf(n) == SUMMIT;
            case 4:
                return grid.kindOf(n) == PASS;
            case 5:
                return grid.isRim(n);
            default:
                return false;
        }
    }

    /** Floats and doubles as bits: reckoned in whole numbers, so that every answer is exact. */
    private static final class Bits {
        private static final int FLOAT_HIDDEN = 1 << 23;
        private static final long DOUBLE_HIDDEN = 1L << 52;

        /** The units of the height with these bits; GAP if it is none. */
        static int unitsOfFloat(int bits) {
            int fraction = bits & (FLOAT_HIDDEN - 1);
            int power = (bits >> 23) & 255;
            if (power == 0 && fraction == 0) {
                return 0;
            }
            // A height of 2^13 is its whole fraction in units; each power less is a shift by one.
            int shift = 127 + 13 - power;
            if (power == 0 || shift < 0 || shift > 23) {
                return GAP;
            }
            int whole = fraction | FLOAT_HIDDEN;
            int units = whole >> shift;
            if (units << shift != whole || units > TOP) {
                return GAP;
            }
            return bits < 0 ? -units : units;
        }

        static int floatOfUnits(int units) {
            int size = units < 0 ? -units : units;
            if (size < 1 || size > TOP) {
                return 0;
            }
            int top = 31 - Integer.numberOfLeadingZeros(size);
            int fraction = (size << (23 - top)) & (FLOAT_HIDDEN - 1);
            int sign = units < 0 ? Integer.MIN_VALUE : 0;
            return sign | (top - 10 + 127) << 23 | fraction;
        }

        /** The bits of the double nearest to over / under, for 0 <= over < 2^52 * under. */
        static long doubleOfRatio(long over, long under) {
            if (over <= 0L || under <= 0L) {
                return 0L;
            }
            long whole = over / under;
            long rest = over % under;
            int shift = 0;
            while (shift < 1000 && whole < DOUBLE_HIDDEN) {
                rest = 2L * rest;
                long bit = rest >= under ? 1L : 0L;
                rest -= bit * under;
                whole = 2L * whole + bit;
                shift++;
            }
            boolean up = 2L * rest > under || 2L * rest == under && (whole & 1L) == 1L;
            // Added, not masked: a fraction that is rounded up to the full carries into the power.
            return ((long) (1023 + 52 - shift) << 52) + (whole - DOUBLE_HIDDEN) + (up ? 1L : 0L);
        }
    }

    /** A grid: the units of its points, GAP where one is missing. */
    private static final class Grid {
        private final int[] units;
        private final int[] lengths;
        private final int[] offsets;
        int step;

        Grid() {
            units = new int[POINTS];
            Arrays.fill(units, GAP);
            lengths = new int[ROWS];
            offsets = new int[ROWS];
            step = FIRST_SPACING;
        }

        void setRow(int i, int length, int offset) {
            if (i < 0 || i >= ROWS) {
                return;
            }
            lengths[i] = length;
            offsets[i] = offset;
            for (int j = 0; j < COLUMNS; j++) {
                units[COLUMNS * i + j] = GAP;
            }
        }

        /** Rows and spacing of another grid, without its points. */
        void takeShape(Grid other) {
            System.arraycopy(other.lengths, 0, lengths, 0, ROWS);
            System.arraycopy(other.offsets, 0, offsets, 0, ROWS);
            step = other.step;
        }

        void takeAll(Grid other) {
            takeShape(other);
            System.arraycopy(other.units, 0, units, 0, POINTS);
        }

        void put(int n, int value) {
            if (n >= 0 && n < POINTS) {
                units[n] = value;
            }
        }

        boolean isInRow(int i, int j) {
            if (i < 0 || i >= ROWS || j < 0 || j >= COLUMNS) {
                return false;
            }
            return j >= offsets[i] && j < offsets[i] + lengths[i];
        }

        int unitsOf(int n) {
            return n < 0 || n >= POINTS ? GAP : units[n];
        }

        boolean isThere(int n) {
            return n >= 0 && n < POINTS && units[n] != GAP;
        }

        /** The number of a point; NONE if it isn't there. */
        int numberOf(int i, int j) {
            if (i < 0 || i >= ROWS || j < 0 || j >= COLUMNS) {
                return NONE;
            }
            int n = COLUMNS * i + j;
            return isThere(n) ? n : NONE;
        }

        boolean has(int i, int j) {
            return numberOf(i, j) != NONE;
        }

        /** The number of the neighbour on one of the eight ways; NONE if it isn't there. */
        int neighbour(int n, int way) {
            if (n < 0 || n >= POINTS || way < 0 || way >= WAYS) {
                return NONE;
            }
            return numberOf(n / COLUMNS + ROW_STEP[way], n % COLUMNS + COLUMN_STEP[way]);
        }

        int neighbourCount(int n) {
            int found = 0;
            for (int way = 0; way < WAYS; way++) {
                if (neighbour(n, way) != NONE) {
                    found++;
                }
            }
            return found;
        }

        boolean isRim(int n) {
            return neighbourCount(n) < WAYS;
        }

        boolean isAbove(int n, int other) {
            int a = unitsOf(n);
            int b = unitsOf(other);
            return a > b || a == b && n > other;
        }

        /** One bit for each of the eight ways on which a neighbour is above the point. */
        private int waysAbove(int n) {
            int mask = 0;
            for (int way = 0; way < WAYS; way++) {
                int other = neighbour(n, way);
                if (other != NONE && isAbove(other, n)) {
                    mask |= 1 << way;
                }
            }
            return mask;
        }

        boolean isPeak(int n) {
            return waysAbove(n) == 0;
        }

        int kindOf(int n) {
            if (isRim(n)) {
                return PLAIN;
            }
            int above = waysAbove(n);
            if (above == 0) {
                return SUMMIT;
            }
            if (above == 255) {
                return HOLLOW;
            }
            int turned = (above << 1 | above >> 7) & 255;
            return Integer.bitCount(above ^ turned) >= 4 ? PASS : PLAIN;
        }

        /** Whether the cell of which this is the first corner has all four. */
        boolean isWhole(int n) {
            return isThere(n) && neighbour(n, 3) != NONE && neighbour(n, 4) != NONE && neighbour(n, 5) != NONE;
        }

        int cellSum(int n) {
            return unitsOf(n) + unitsOf(n + 1) + unitsOf(n + COLUMNS) + unitsOf(n + COLUMNS + 1);
        }

        int smoothed(int n, int weight) {
            long sum = (long) weight * unitsOf(n);
            int parts = weight;
            for (int way = 1; way < WAYS; way += 2) {
                int other = neighbour(n, way);
                if (other != NONE) {
                    sum += unitsOf(other);
                    parts++;
                }
            }
            return (int) nearestEven(sum, parts);
        }

        private static long nearestEven(long over, long under) {
            if (under <= 0L) {
                return 0L;
            }
            long low = Math.floorDiv(over, under);
            long rest = Math.floorMod(over, under);
            boolean up = 2L * rest > under || 2L * rest == under && (low & 1L) == 1L;
            return up ? low + 1L : low;
        }
    }

    /** Water on a grid, and floods that rise or sink from one point on. */
    private static final class Water {
        private final int[] queue;
        private final long[] heap;
        private final byte[] reached;
        private int heapSize;

        Water() {
            queue = new int[POINTS];
            heap = new long[POINTS];
            reached = new byte[POINTS];
        }

        static int downFrom(Grid grid, int n) {
            int best = NONE;
            long bestFall = 0L;
            for (int way = 0; way < WAYS; way++) {
                int other = grid.neighbour(n, way);
                long fall = other == NONE ? 0L : (long) grid.unitsOf(n) - grid.unitsOf(other);
                if (fall > 0L) {
                    // Twice the slope's square: whole beside as well as aslant.
                    long steep = (way & 1) == 1 ? 2L * fall * fall : fall * fall;
                    if (steep > bestFall || steep == bestFall && other < best) {
                        best = other;
                        bestFall = steep;
                    }
                }
            }
            return best;
        }

        static int basinOf(Grid grid, int n) {
            int at = n;
            for (int turn = 0; turn < POINTS; turn++) {
                int down = downFrom(grid, at);
                if (down == NONE) {
                    return at;
                }
                at = down;
            }
            return at;
        }

        /** How many points' water comes through: the queue takes in whatever flows to what it holds. */
        int streamAt(Grid grid, int n) {
            queue[0] = n;
            int size = 1;
            for (int k = 0; k < size && k < POINTS; k++) {
                for (int way = 0; way < WAYS; way++) {
                    int other = grid.neighbour(queue[k], way);
                    if (other != NONE && size < POINTS && downFrom(grid, other) == queue[k]) {
                        queue[size] = other;
                        size++;
                    }
                }
            }
            return size;
        }

        int filled(Grid grid, int n) {
            return flood(grid, n, 1);
        }

        int saddle(Grid grid, int n) {
            return flood(grid, n, -1);
        }

        /**
         * The flood goes on over the lowest point that it touches until it comes to the rim (sign 1), or,
         * upside down, over the highest one until it comes to a point above its start (sign -1).
         */
        private int flood(Grid grid, int start, int sign) {
            Arrays.fill(reached, (byte) 0);
            heapSize = 0;
            reach(grid, start, sign);
            int worst = -TOP;
            for (int turn = 0; turn < POINTS && heapSize > 0; turn++) {
                int n = takeLeast();
                int key = sign * grid.unitsOf(n);
                worst = key > worst ? key : worst;
                if (sign > 0 ? grid.isRim(n) : grid.isAbove(n, start)) {
                    return sign * worst;
                }
                for (int way = 0; way < WAYS; way++) {
                    reach(grid, grid.neighbour(n, way), sign);
                }
            }
            return NO_SADDLE;
        }

        private void reach(Grid grid, int n, int sign) {
            if (n < 0 || n >= POINTS || reached[n] != 0 || heapSize < 0 || heapSize >= POINTS) {
                return;
            }
            reached[n] = 1;
            long key = (long) (sign * grid.unitsOf(n)) * POINTS + n;
            int at = heapSize;
            heapSize++;
            while (at > 0 && heap[(at - 1) / 2] > key) {
                heap[at] = heap[(at - 1) / 2];
                at = (at - 1) / 2;
            }
            heap[at] = key;
        }

        private int takeLeast() {
            if (heapSize < 1 || heapSize > POINTS) {
                return NONE;
            }
            long least = heap[0];
            heapSize--;
            sink(heap[heapSize]);
            return (int) Math.floorMod(least, (long) POINTS);
        }

        private void sink(long key) {
            int at = 0;
            int child = lesserChild(at);
            while (child < heapSize && heap[child] < key) {
                heap[at] = heap[child];
                at = child;
                child = lesserChild(at);
            }
            heap[at] = key;
        }

        private int lesserChild(int at) {
            int child = 2 * at + 1;
            return child + 1 < heapSize && heap[child + 1] < heap[child] ? child + 1 : child;
        }
    }

    /** To which side each side leads on, at one level. */
    private static final class Joins {
        private final int[] next;
        private final int[] before;
        /** No side before the least or behind the last leads on: most grids are small within their room. */
        int least;
        int last;

        Joins() {
            next = new int[SIDES];
            before = new int[SIDES];
        }

        void join(Grid grid, int level) {
            Arrays.fill(next, NONE);
            Arrays.fill(before, NONE);
            least = SIDES;
            last = NONE;
            for (int n = 0; n < POINTS; n++) {
                if (grid.isWhole(n)) {
                    joinCell(grid, n, level);
                }
            }
        }

        /**
         * Corners and sides of a cell are counted in the turn from x to y, side k from corner k to the next.
         * With the higher ground on its left a line comes in by a side whose first corner is the higher one.
         */
        private void joinCell(Grid grid, int n, int level) {
            int high = 0;
            for (int k = 0; k < 4; k++) {
                if (grid.unitsOf(cornerOf(n, k)) >= level) {
                    high |= 1 << k;
                }
            }
            boolean roundLow = grid.cellSum(n) >= 4 * level;
            for (int k = 0; k < 4; k++) {
                if (isHigh(high, k) && !isHigh(high, k + 1)) {
                    link(sideOfCell(n, k), sideOfCell(n, wayOut(high, k, roundLow)));
                }
            }
        }

        /** Going around over the lower corners, or back over the higher ones, the first side that leads out. */
        private static int wayOut(int high, int in, boolean roundLow) {
            int step = roundLow ? 1 : 3;
            for (int turn = 1; turn < 4; turn++) {
                int k = in + step * turn;
                if (!isHigh(high, k) && isHigh(high, k + 1)) {
                    return k & 3;
                }
            }
            return in;
        }

        private static boolean isHigh(int high, int k) {
            return (high >> (k & 3) & 1) == 1;
        }

        private static int cornerOf(int n, int k) {
            return n + (k == 1 || k == 2 ? 1 : 0) + (k >= 2 ? COLUMNS : 0);
        }

        private static int sideOfCell(int n, int k) {
            switch (k) {
                case 0:
                    return 2 * n;
                case 1:
                    return 2 * (n + 1) + 1;
                case 2:
                    return 2 * (n + COLUMNS);
                default:
                    return 2 * n + 1;
            }
        }

        private void link(int from, int to) {
            if (from >= 0 && from < SIDES && to >= 0 && to < SIDES) {
                next[from] = to;
                before[to] = from;
                least = Math.min(least, from);
                last = Math.max(last, from);
            }
        }

        boolean leadsOn(int side) {
            return side >= 0 && side < SIDES && next[side] != NONE;
        }

        boolean beginsAt(int side) {
            return leadsOn(side) && before[side] == NONE;
        }

        /** Where the side leads to; it leads there no more, so that no line is drawn twice. */
        int leave(int side) {
            if (!leadsOn(side)) {
                return NONE;
            }
            int to = next[side];
            next[side] = NONE;
            return to;
        }
    }

    /** The lines of the latest contour, with the grid and the levels as they were then. */
    private static final class Lines {
        private final Grid ground;
        private final Joins joins;
        private final int[] heights;
        private final int[] sides;
        private final int[] firsts;
        private final int[] levelIndex;
        private final byte[] closed;
        private final Area there;
        private final Area inner;
        private final Area outer;
        int size;
        private boolean full;

        Lines() {
            ground = new Grid();
            joins = new Joins();
            heights = new int[MOST_LEVELS];
            sides = new int[MOST_LINE_SIDES];
            firsts = new int[MOST_LINES + 1];
            levelIndex = new int[MOST_LINES];
            closed = new byte[MOST_LINES];
            there = new Area();
            inner = new Area();
            outer = new Area();
            size = 0;
            full = false;
        }

        void draw(Grid grid, int[] levelMm, int levelCount) {
            ground.takeAll(grid);
            there.takeAll(ground);
            size = 0;
            full = false;
            for (int v = 0; v < levelCount && v < MOST_LEVELS && v < levelMm.length; v++) {
                heights[v] = MM * levelMm[v];
                if (!full) {
                    drawLevel(v);
                }
            }
        }

        private void drawLevel(int v) {
            joins.join(ground, heights[v]);
            for (int side = joins.least; side <= joins.last && !full; side++) {
                if (joins.beginsAt(side)) {
                    drawLine(side, v);
                }
            }
            for (int side = joins.least; side <= joins.last && !full; side++) {
                if (joins.leadsOn(side)) {
                    drawLine(side, v);
                }
            }
        }

        private void drawLine(int start, int v) {
            full = size < 0 || size >= MOST_LINES;
            int end = full ? 0 : firsts[size];
            int at = start;
            do {
                full = full || end < 0 || end >= MOST_LINE_SIDES;
                if (full) {
                    return;
                }
                sides[end] = at;
                end++;
                at = joins.leave(at);
            } while (at != NONE && at != start);
            levelIndex[size] = v;
            closed[size] = (byte) (at == start ? 1 : 0);
            size++;
            firsts[size] = end;
        }

        boolean has(int k) {
            return k >= 0 && k < size && k < MOST_LINES;
        }

        boolean isClosed(int k) {
            return has(k) && closed[k] == 1;
        }

        int lengthOf(int k) {
            return has(k) ? firsts[k + 1] - firsts[k] : 0;
        }

        int sideOf(int k, int i) {
            if (!has(k) || i < 0 || i >= lengthOf(k)) {
                return NONE;
            }
            int at = firsts[k] + i;
            return at < 0 || at >= MOST_LINE_SIDES ? NONE : sides[at];
        }

        int levelOf(int k) {
            return has(k) ? levelIndex[k] : NONE;
        }

        int levelUnits(int k) {
            int v = levelOf(k);
            return v < 0 || v >= MOST_LEVELS ? 0 : heights[v];
        }

        private static int otherEnd(int side) {
            return side / 2 + ((side & 1) == 0 ? 1 : COLUMNS);
        }

        long placeOf(int side, int level, int axis) {
            int n = side / 2;
            long steps = axis == 0 ? n % COLUMNS : n / COLUMNS;
            if ((side & 1) != axis) {
                return Bits.doubleOfRatio(ground.step * steps, 1L);
            }
            long from = ground.unitsOf(n);
            long rise = ground.unitsOf(otherEnd(side)) - from;
            long sum = ground.step * (steps * rise + (level - from));
            return rise < 0L ? Bits.doubleOfRatio(-sum, -rise) : Bits.doubleOfRatio(sum, rise);
        }

        boolean holds(int k, int i, int j) {
            inner.outline(this, k);
            return inner.has(i, j);
        }

        int pointsInside(int k) {
            if (!isClosed(k)) {
                return NONE;
            }
            inner.outline(this, k);
            return inner.size;
        }

        int highInside(int k) {
            if (!isClosed(k)) {
                return NONE;
            }
            inner.outline(this, k);
            return isHighIn(inner, k) ? 1 : 0;
        }

        /** A line parts all its sides alike: the first one tells for all where the higher ground is. */
        private boolean isHighIn(Area area, int k) {
            int side = sideOf(k, 0);
            int n = side / 2;
            int higher = ground.unitsOf(n) >= levelUnits(k) ? n : otherEnd(side);
            return area.has(higher / COLUMNS, higher % COLUMNS);
        }

        int parentOf(int k) {
            if (!isClosed(k)) {
                return NONE;
            }
            inner.outline(this, k);
            int best = NONE;
            int bestSize = 0;
            int bestGap = 0;
            for (int m = 0; m < size; m++) {
                if (m != k && isClosed(m)) {
                    outer.outline(this, m);
                    int gap = Math.abs(levelUnits(m) - levelUnits(k));
                    boolean nearer = outer.size < bestSize || outer.size == bestSize && gap < bestGap;
                    if ((best == NONE || nearer) && isAround(m, k)) {
                        best = m;
                        bestSize = outer.size;
                        bestGap = gap;
                    }
                }
            }
            return best;
        }

        /** Whether line m, outlined as the outer area, is around line k, outlined as the inner one. */
        private boolean isAround(int m, int k) {
            if (!outer.covers(inner)) {
                return false;
            }
            if (outer.size != inner.size) {
                return true;
            }
            int a = levelUnits(m);
            int b = levelUnits(k);
            return isHighIn(outer, m) ? a < b : a > b;
        }
    }

    /** The points inside a closed line: for each row a mask of its columns. */
    private static final class Area {
        private static final long ALL_COLUMNS = (1L << COLUMNS) - 1L;
        private final long[] masks;
        int size;

        Area() {
            masks = new long[ROWS];
        }

        /** All points of a grid that are there. */
        void takeAll(Grid grid) {
            Arrays.fill(masks, 0L);
            for (int n = 0; n < POINTS; n++) {
                if (grid.isThere(n)) {
                    masks[n / COLUMNS] |= 1L << n % COLUMNS;
                }
            }
        }

        void outline(Lines lines, int k) {
            Arrays.fill(masks, 0L);
            int length = lines.lengthOf(k);
            for (int i = 0; i < length; i++) {
                int side = lines.sideOf(k, i);
                if (side >= 0 && side < SIDES && (side & 1) == 0) {
                    turnBehind(side / 2);
                }
            }
            keep(lines.there);
        }

        /** A point is inside by an odd number of sides before it: each side turns all columns behind it. */
        private void turnBehind(int n) {
            masks[n / COLUMNS] ^= ALL_COLUMNS & -(2L << n % COLUMNS);
        }

        private void keep(Area there) {
            size = 0;
            for (int i = 0; i < ROWS; i++) {
                masks[i] &= there.masks[i];
                size += Long.bitCount(masks[i]);
            }
        }

        boolean has(int i, int j) {
            return i >= 0 && i < ROWS && j >= 0 && j < COLUMNS && (masks[i] >> j & 1L) == 1L;
        }

        boolean covers(Area other) {
            for (int i = 0; i < ROWS; i++) {
                if ((other.masks[i] & ~masks[i]) != 0L) {
                    return false;
                }
            }
            return true;
        }
    }

    /** The straight line from an eye to the ground of another point. */
    private static final class Sight {
        /**
         * Whether the ground hides the point at one of the rows (or columns) strictly between. All is
         * taken times the number of steps from end to end, so that nothing is rounded.
         */
        static boolean isHidden(Grid grid, int from, int to, int eye, boolean byRow) {
            int along = alongOf(from, byRow);
            int across = alongOf(from, !byRow);
            int goAlong = alongOf(to, byRow) - along;
            int goAcross = alongOf(to, !byRow) - across;
            int steps = Math.abs(goAlong);
            long top = (long) grid.unitsOf(from) + (long) MM * eye;
            for (int k = 1; k < steps; k++) {
                long ray = top * (steps - k) + (long) grid.unitsOf(to) * k;
                int at = along + (goAlong > 0 ? k : -k);
                int place = across * steps + goAcross * k;
                int low = numberAt(grid, at, place / steps, byRow);
                int high = numberAt(grid, at, (place + steps - 1) / steps, byRow);
                int part = place % steps;
                if (low != NONE && high != NONE) {
                    long land = (long) grid.unitsOf(low) * (steps - part) + (long) grid.unitsOf(high) * part;
                    if (land > ray) {
                        return true;
                    }
                }
            }
            return false;
        }

        private static int alongOf(int n, boolean byRow) {
            return byRow ? n / COLUMNS : n % COLUMNS;
        }

        private static int numberAt(Grid grid, int along, int across, boolean byRow) {
            return byRow ? grid.numberOf(along, across) : grid.numberOf(across, along);
        }
    }
}
