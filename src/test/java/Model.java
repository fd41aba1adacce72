import java.util.ArrayList;
import java.util.Arrays;
import java.util.List;
import java.util.Set;
import java.util.TreeMap;
import java.util.TreeSet;

/**
 * The document once more, word by word and without regard to speed: by floats, sets, geometry and
 * trying all heights, so that it shares no way of reckoning with the class that is tested.
 */
final class Model {
    static final int R = 32;
    static final int C = 40;

    static final class Sheet {
        Float[][] h = new Float[R][C];
        int[] length = new int[R];
        int[] offset = new int[R];
        int spacing = 1000;

        Sheet copy() {
            Sheet s = new Sheet();
            for (int i = 0; i < R; i++) s.h[i] = h[i].clone();
            s.length = length.clone();
            s.offset = offset.clone();
            s.spacing = spacing;
            return s;
        }

        boolean there(int i, int j) { return i >= 0 && i < R && j >= 0 && j < C && h[i][j] != null; }
        boolean there(int n) { return there(n / C, n % C); }
        long u(int i, int j) { return (long) (h[i][j] * 1024.0); }
        long u(int n) { return u(n / C, n % C); }
        boolean whole(int i, int j) { return there(i, j) && there(i, j + 1) && there(i + 1, j) && there(i + 1, j + 1); }

        List<Integer> points() {
            List<Integer> all = new ArrayList<>();
            for (int n = 0; n < R * C; n++) if (there(n)) all.add(n);
            return all;
        }

        List<Integer> near(int n) {
            List<Integer> all = new ArrayList<>();
            for (int i = n / C - 1; i <= n / C + 1; i++) {
                for (int j = n % C - 1; j <= n % C + 1; j++) if (there(i, j) && C * i + j != n) all.add(C * i + j);
            }
            return all;
        }

        boolean above(int n, int m) { return u(n) != u(m) ? u(n) > u(m) : n > m; }
        boolean rim(int n) { return near(n).size() < 8; }

        int down(int n) {
            int best = -1;
            double bestSlope = 0;
            for (int m : near(n)) {
                double d = u(n) - u(m);
                double slope = d * d / ((m / C != n / C && m % C != n % C) ? 2.0 : 1.0);
                if (d > 0 && slope > bestSlope) { best = m; bestSlope = slope; }
            }
            return best;
        }

        List<Integer> course(int n) {
            List<Integer> way = new ArrayList<>();
            for (int at = n; at != -1; at = down(at)) way.add(at);
            return way;
        }

        /** Which points can be come to from n over points that satisfy the bound. */
        Set<Integer> reach(int n, long least, long most) {
            Set<Integer> got = new TreeSet<>();
            List<Integer> open = new ArrayList<>();
            if (u(n) >= least && u(n) <= most) { got.add(n); open.add(n); }
            while (!open.isEmpty()) {
                int at = open.remove(open.size() - 1);
                for (int m : near(at)) if (u(m) >= least && u(m) <= most && got.add(m)) open.add(m);
            }
            return got;
        }

        int filled(int n) {
            TreeSet<Long> heights = new TreeSet<>();
            for (int m : points()) heights.add(u(m));
            for (long top : heights) for (int m : reach(n, Long.MIN_VALUE, top)) if (rim(m)) return (int) top;
            throw new IllegalStateException("no rim");
        }

        int saddle(int n) {
            for (int m : near(n)) if (above(m, n)) return -8388609;
            TreeSet<Long> heights = new TreeSet<>();
            for (int m : points()) heights.add(u(m));
            for (long low : heights.descendingSet()) for (int m : reach(n, low, Long.MAX_VALUE)) if (above(m, n)) return (int) low;
            return -8388609;
        }

        int kind(int n) {
            if (near(n).size() < 8) return 0;
            int[] around = {n - C - 1, n - C, n - C + 1, n + 1, n + C + 1, n + C, n + C - 1, n - 1};
            int high = 0;
            int turns = 0;
            for (int k = 0; k < 8; k++) {
                if (above(around[k], n)) high++;
                if (above(around[k], n) != above(around[(k + 1) % 8], n)) turns++;
            }
            return high == 0 ? 1 : high == 8 ? 2 : turns >= 4 ? 3 : 0;
        }
    }

    static final class Line {
        int level;
        long units;
        boolean closed;
        List<Integer> sides = new ArrayList<>();
        Set<Integer> in = new TreeSet<>();
        boolean highInside;
    }

    final Sheet[] sheets = {new Sheet(), new Sheet(), new Sheet(), new Sheet()};
    List<Integer> levels = new ArrayList<>();
    List<Line> lines = new ArrayList<>();
    Sheet then = new Sheet();

    private static boolean grid(int g) { return g >= 0 && g <= 3; }

    boolean spacing(int g, int mm) {
        if (!grid(g) || mm < 1 || mm > 100000) return false;
        sheets[g].spacing = mm;
        return true;
    }

    boolean row(int g, int i, int length, int offset) {
        if (!grid(g) || i < 0 || i > 31 || offset < 0 || offset > 39 || length < 0 || (long) offset + length > 40) return false;
        sheets[g].length[i] = length;
        sheets[g].offset[i] = offset;
        Arrays.fill(sheets[g].h[i], null);
        return true;
    }

    boolean height(int g, int i, int j, int bits) {
        float f = Float.intBitsToFloat(bits);
        if (!grid(g) || i < 0 || i > 31) return false;
        Sheet s = sheets[g];
        if (j < s.offset[i] || j >= s.offset[i] + s.length[i]) return false;
        double v = f * 1024.0;
        if (!(f >= -8192f && f <= 8192f) || v != Math.rint(v)) return false;
        s.h[i][j] = f + 0.0f;
        return true;
    }

    boolean missing(int g, int i, int j) {
        if (!grid(g) || !sheets[g].there(i, j)) return false;
        sheets[g].h[i][j] = null;
        return true;
    }

    int at(int g, int i, int j) {
        return grid(g) && sheets[g].there(i, j) ? Float.floatToRawIntBits(sheets[g].h[i][j]) : Integer.MAX_VALUE;
    }

    int level(int mm) {
        if (mm < -8192 || mm > 8192 || levels.size() == 16) return -1;
        for (int had : levels) if (had >= mm) return -1;
        levels.add(mm);
        return levels.size();
    }

    void levels() { levels.clear(); }

    int contour(int g) {
        if (!grid(g)) return -1;
        then = sheets[g].copy();
        lines = new ArrayList<>();
        List<Line> all = new ArrayList<>();
        for (int v = 0; v < levels.size(); v++) all.addAll(linesOf(v));
        int sides = 0;
        for (Line l : all) {
            sides += l.sides.size();
            if (lines.size() == 400 || sides > 8000) break;
            lines.add(l);
            if (l.closed) findInside(l);
        }
        return lines.size();
    }

    private double[] middle(int side) {
        int n = side / 2;
        return side % 2 == 0 ? new double[] {n % C + 0.5, n / C} : new double[] {n % C, n / C + 0.5};
    }

    private int end(int side) { return side % 2 == 0 ? side / 2 + 1 : side / 2 + C; }
    private boolean crossed(int side, long level) { return (then.u(side / 2) >= level) != (then.u(end(side)) >= level); }
    private int higherEnd(int side) { return then.u(side / 2) > then.u(end(side)) ? side / 2 : end(side); }

    private void lead(TreeMap<Integer, Integer> next, int a, int b) {
        double[] p = middle(a);
        double[] q = middle(b);
        int top = higherEnd(a);
        double turn = (q[0] - p[0]) * (top / C - p[1]) - (q[1] - p[1]) * (top % C - p[0]);
        if (turn == 0) throw new IllegalStateException("neither left nor right");
        if (next.put(turn > 0 ? a : b, turn > 0 ? b : a) != null) throw new IllegalStateException("leads twice");
    }

    private List<Line> linesOf(int v) {
        long level = 1024L * levels.get(v);
        TreeMap<Integer, Integer> next = new TreeMap<>();
        for (int i = 0; i < R; i++) for (int j = 0; j < C; j++) if (then.whole(i, j)) {
            int n = C * i + j;
            List<Integer> cut = new ArrayList<>();
            for (int side : new int[] {2 * n, 2 * n + 1, 2 * n + 3, 2 * (n + C)}) if (crossed(side, level)) cut.add(side);
            if (cut.size() == 2) lead(next, cut.get(0), cut.get(1));
            if (cut.size() == 4) {
                long sum = then.u(n) + then.u(n + 1) + then.u(n + C) + then.u(n + C + 1);
                boolean wantHigh = sum < 4 * level;
                for (int corner : new int[] {n, n + 1, n + C, n + C + 1}) {
                    if ((then.u(corner) >= level) != wantHigh) continue;
                    List<Integer> two = new ArrayList<>();
                    for (int side : cut) if (side / 2 == corner || end(side) == corner) two.add(side);
                    lead(next, two.get(0), two.get(1));
                }
            }
        }
        List<Line> made = new ArrayList<>();
        Set<Integer> used = new TreeSet<>();
        for (int s : next.keySet()) if (!next.containsValue(s)) made.add(follow(next, s, v, used));
        for (int s : next.keySet()) if (!used.contains(s)) made.add(follow(next, s, v, used));
        return made;
    }

    private Line follow(TreeMap<Integer, Integer> next, int start, int v, Set<Integer> used) {
        Line l = new Line();
        l.level = v;
        l.units = 1024L * levels.get(v);
        Integer at = start;
        while (at != null && used.add(at)) {
            l.sides.add(at);
            at = next.get(at);
        }
        l.closed = at != null;
        return l;
    }

    private void findInside(Line l) {
        for (int n : then.points()) {
            int before = 0;
            for (int s : l.sides) if (s % 2 == 0 && s / 2 / C == n / C && s / 2 % C < n % C) before++;
            if (before % 2 == 1) l.in.add(n);
        }
        int high = 0;
        for (int s : l.sides) {
            if (l.in.contains(s / 2) == l.in.contains(end(s))) throw new IllegalStateException("a side not parted");
            if (l.in.contains(higherEnd(s))) high++;
        }
        if (high != 0 && high != l.sides.size()) throw new IllegalStateException("high ground on both sides");
        l.highInside = high != 0;
    }

    private static boolean around(Line a, Line b) {
        if (a == b || !a.closed || !b.closed || !a.in.containsAll(b.in)) return false;
        if (a.in.size() > b.in.size()) return true;
        return a.highInside ? a.units < b.units : a.units > b.units;
    }

    private int parent(Line l) {
        int best = -1;
        for (int m = 0; m < lines.size(); m++) {
            Line o = lines.get(m);
            if (!around(o, l)) continue;
            if (best == -1) { best = m; continue; }
            Line b = lines.get(best);
            long near = Math.abs(o.units - l.units) - Math.abs(b.units - l.units);
            if (o.in.size() == b.in.size() && near == 0) throw new IllegalStateException("two parents alike");
            if (o.in.size() < b.in.size() || o.in.size() == b.in.size() && near < 0) best = m;
        }
        return best;
    }

    int line(int k, int what) {
        if (k < 0 || k >= lines.size()) return -1;
        Line l = lines.get(k);
        switch (what) {
            case 0: return l.level;
            case 1: return l.sides.size();
            case 2: return l.closed ? 1 : 0;
            case 3: return l.closed ? parent(l) : -1;
            case 4: return l.closed ? l.in.size() : -1;
            case 5: return l.closed ? (l.highInside ? 1 : 0) : -1;
            default: return -1;
        }
    }

    int side(int k, int i) {
        return k < 0 || k >= lines.size() || i < 0 || i >= lines.get(k).sides.size() ? -1 : lines.get(k).sides.get(i);
    }

    long place(int k, int i, int axis) {
        int s = side(k, i);
        if (s == -1 || axis < 0 || axis > 1) return 0;
        int n = s / 2;
        long at = axis == 0 ? n % C : n / C;
        if (axis != s % 2) return Double.doubleToRawLongBits((double) (then.spacing * at));
        long a = then.u(n);
        long b = then.u(end(s));
        // Both are whole and below 2^53: the quotient of the doubles is the nearest one.
        double over = (double) (then.spacing * (at * (b - a) + (lines.get(k).units - a)));
        return Double.doubleToRawLongBits(over / (double) (b - a) + 0.0);
    }

    int inside(int k, int i, int j) {
        if (k < 0 || k >= lines.size() || !lines.get(k).closed || i < 0 || i > 31 || j < 0 || j > 39) return -1;
        return lines.get(k).in.contains(C * i + j) ? 1 : 0;
    }

    int point(int g, int i, int j, int what) {
        if (!grid(g) || !sheets[g].there(i, j)) return -8388610;
        Sheet s = sheets[g];
        int n = C * i + j;
        switch (what) {
            case 0: return s.down(n);
            case 1: return s.course(n).get(s.course(n).size() - 1);
            case 2: {
                int through = 0;
                for (int m : s.points()) if (s.course(m).contains(n)) through++;
                return through;
            }
            case 3: return s.filled(n);
            case 4: return s.kind(n);
            case 5: return s.saddle(n);
            case 6: return s.near(n).size();
            default: return -8388610;
        }
    }

    int count(int g, int what) {
        if (!grid(g) || what < 0 || what > 5) return -1;
        Sheet s = sheets[g];
        int found = 0;
        for (int n : s.points()) {
            if (what == 0) found++;
            if (what == 1 && s.whole(n / C, n % C)) found++;
            if (what == 2 && s.down(n) == -1) found++;
            if (what == 3 && s.kind(n) == 1) found++;
            if (what == 4 && s.kind(n) == 3) found++;
            if (what == 5 && s.rim(n)) found++;
        }
        return found;
    }

    long volume(int g, int mm, int what) {
        if (!grid(g) || mm < -8192 || mm > 8192 || what < 0 || what > 1) return -1;
        Sheet s = sheets[g];
        long cut = 0;
        long fill = 0;
        for (int i = 0; i < R; i++) for (int j = 0; j < C; j++) if (s.whole(i, j)) {
            long d = s.u(i, j) + s.u(i, j + 1) + s.u(i + 1, j) + s.u(i + 1, j + 1) - 4096L * mm;
            if (d > 0) cut += d; else fill -= d;
        }
        return what == 0 ? cut : fill;
    }

    int seen(int g, int i, int j, int i2, int j2, int eye) {
        if (!grid(g) || eye < 0 || eye > 8192 || !sheets[g].there(i, j) || !sheets[g].there(i2, j2)) return -1;
        Sheet s = sheets[g];
        long e = s.u(i, j) + 1024L * eye;
        long t = s.u(i2, j2);
        for (int r = Math.min(i, i2) + 1; r < Math.max(i, i2); r++) {
            long den = i2 - i;
            long num = j * den + (long) (j2 - j) * (r - i);
            long lo = Math.floorDiv(num, den);
            long part = num - lo * den;
            long hi = part == 0 ? lo : lo + 1;
            if (!s.there(r, (int) lo) || !s.there(r, (int) hi)) continue;
            long ground = s.u(r, (int) lo) * (den - part) + s.u(r, (int) hi) * part;
            long line = e * (i2 - r) + t * (r - i);
            if (den > 0 ? ground > line : ground < line) return 0;
        }
        for (int c = Math.min(j, j2) + 1; c < Math.max(j, j2); c++) {
            long den = j2 - j;
            long num = i * den + (long) (i2 - i) * (c - j);
            long lo = Math.floorDiv(num, den);
            long part = num - lo * den;
            long hi = part == 0 ? lo : lo + 1;
            if (!s.there((int) lo, c) || !s.there((int) hi, c)) continue;
            long ground = s.u((int) lo, c) * (den - part) + s.u((int) hi, c) * part;
            long line = e * (j2 - c) + t * (c - j);
            if (den > 0 ? ground > line : ground < line) return 0;
        }
        return 1;
    }

    boolean smooth(int g, int to, int weight) {
        if (!grid(g) || !grid(to) || weight < 1 || weight > 1000) return false;
        Sheet from = sheets[g];
        Sheet made = from.copy();
        for (int n : from.points()) {
            long sum = weight * from.u(n);
            int parts = weight;
            for (int m : from.near(n)) if (m / C == n / C || m % C == n % C) { sum += from.u(m); parts++; }
            // Below 2^53 and no half is missed: a quotient is a double's half only where it is one.
            made.h[n / C][n % C] = (float) (Math.rint((double) sum / parts) / 1024.0) + 0.0f;
        }
        sheets[to] = made;
        return true;
    }

    int difference(int g, int h, int to) {
        if (!grid(g) || !grid(h) || !grid(to)) return -1;
        Sheet made = sheets[g].copy();
        int beyond = 0;
        for (int i = 0; i < R; i++) for (int j = 0; j < C; j++) {
            made.h[i][j] = null;
            if (!sheets[g].there(i, j) || !sheets[h].there(i, j)) continue;
            long d = sheets[g].u(i, j) - sheets[h].u(i, j);
            if (Math.abs(d) > 8192L * 1024) beyond++; else made.h[i][j] = (float) (d / 1024.0);
        }
        sheets[to] = made;
        return beyond;
    }
}
