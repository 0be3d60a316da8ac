import java.math.BigInteger;
import java.util.ArrayList;
import java.util.List;
import java.util.Map;
import java.util.TreeMap;

/**
 * The document once more, in the slowest and plainest way: nothing is kept that can be worked out,
 * and whatever can be tried is tried. It shares no way of working with the class it is held against.
 */
final class Model {
    private static final class Ground {
        int kind;
        int x;
        int y;
        long east;
        long north;
        int offset = 0;
        int offsetFrom = 0;
        final int[] green = new int[3];
        final TreeMap<Integer, int[]> readings = new TreeMap<>();
        final List<int[]> steps = new ArrayList<>();
    }

    private static final class Held {
        Ground mark;
        int[] ints;
        long[] longs;
    }

    private final List<Ground> marks = new ArrayList<>();
    private final List<int[]> lines = new ArrayList<>();
    private final Held[] shelves = new Held[8];
    private int tolerance = 0;

    private static boolean in(long n, long from, long to) {
        return n >= from && n <= to;
    }

    private boolean isMark(int k) {
        return in(k, 0, marks.size() - 1);
    }

    int mark(int kind, int x, int y) {
        if (!in(kind, 0, 3) || !in(x, -1000, 1000) || !in(y, -1000, 1000)) {
            return -1;
        }
        if (marks.size() == 10) {
            return -2;
        }
        Ground g = new Ground();
        g.kind = kind;
        g.x = x;
        g.y = y;
        marks.add(g);
        return marks.size() - 1;
    }

    int antenna(int mark, int epoch, int offset) {
        if (!isMark(mark) || !in(epoch, 0, 39) || !in(offset, -99, 99)) {
            return -1001;
        }
        Ground g = marks.get(mark);
        if (g.kind != 1 && g.kind != 2) {
            return -1003;
        }
        int before = g.offset;
        g.offset = offset;
        g.offsetFrom = epoch;
        return before;
    }

    int read(int mark, int epoch, int east, int north) {
        if (!isMark(mark) || !in(epoch, 0, 39) || !in(east, -100000, 100000) || !in(north, -100000, 100000)) {
            return -1;
        }
        return marks.get(mark).readings.put(epoch, new int[] {east, north}) == null ? 1 : 0;
    }

    int gap(int mark, int epoch) {
        if (!isMark(mark) || !in(epoch, 0, 39)) {
            return -1;
        }
        return marks.get(mark).readings.remove(epoch) == null ? 0 : 1;
    }

    int step(int mark, int epoch, int east, int north) {
        if (!isMark(mark) || !in(epoch, 0, 39) || !in(east, -10000, 10000) || !in(north, -10000, 10000)) {
            return -1;
        }
        List<int[]> steps = marks.get(mark).steps;
        if (steps.size() == 10) {
            return -2;
        }
        steps.add(new int[] {epoch, east, north});
        return steps.size();
    }

    private TreeMap<Integer, Long> clearedOf(Ground g, int side) {
        TreeMap<Integer, Long> all = new TreeMap<>();
        for (Map.Entry<Integer, int[]> r : g.readings.entrySet()) {
            int epoch = r.getKey();
            long value = r.getValue()[side];
            for (int[] s : g.steps) {
                value -= s[0] <= epoch ? s[1 + side] : 0;
            }
            if ((g.kind == 1 || g.kind == 2) && epoch >= g.offsetFrom) {
                value -= g.offset;
            }
            if (g.kind == 3) {
                long sum = 0;
                long n = 0;
                for (Map.Entry<Integer, int[]> other : g.readings.entrySet()) {
                    if (other.getKey() % 4 == epoch % 4) {
                        sum += other.getValue()[side];
                        n++;
                    }
                }
                value -= sum / n;
            }
            all.put(epoch, value);
        }
        if (g.kind == 2) {
            all.pollFirstEntry();
            all.pollFirstEntry();
        }
        return all;
    }

    long cleared(int mark, int epoch, int side) {
        if (!isMark(mark) || !in(epoch, 0, 39) || !in(side, 0, 1)) {
            throw new IllegalArgumentException();
        }
        Long value = clearedOf(marks.get(mark), side).get(epoch);
        if (value == null) {
            throw new IllegalStateException();
        }
        return value;
    }

    int many(int mark) {
        return isMark(mark) ? clearedOf(marks.get(mark), 0).size() : -1;
    }

    private static long term(BigInteger above, BigInteger below, boolean lower) {
        BigInteger d = above.gcd(below);
        if (below.signum() < 0) {
            d = d.negate();
        }
        return (lower ? below : above).divide(d).longValueExact();
    }

    long rate(int mark, int side, boolean lower) {
        if (!isMark(mark) || !in(side, 0, 1)) {
            throw new IllegalArgumentException();
        }
        TreeMap<Integer, Long> z = clearedOf(marks.get(mark), side);
        if (z.size() < 2) {
            throw new IllegalStateException();
        }
        // Twice the sum over pairs of (t - t')(z - z') and of (t - t') squared are the same two numbers.
        BigInteger above = BigInteger.ZERO;
        BigInteger below = BigInteger.ZERO;
        for (Map.Entry<Integer, Long> p : z.entrySet()) {
            for (Map.Entry<Integer, Long> q : z.entrySet()) {
                BigInteger dt = BigInteger.valueOf(p.getKey() - q.getKey());
                above = above.add(dt.multiply(BigInteger.valueOf(p.getValue() - q.getValue())));
                below = below.add(dt.multiply(dt));
            }
        }
        return term(above, below, lower);
    }

    int jump(int mark, int side) {
        if (!isMark(mark) || !in(side, 0, 1)) {
            return -1;
        }
        TreeMap<Integer, Long> z = clearedOf(marks.get(mark), side);
        int found = -4;
        Ratio farthest = null;
        for (int e : z.keySet()) {
            int n = z.headMap(e).size();
            int m = z.tailMap(e).size();
            if (n < 2 || m < 2) {
                continue;
            }
            Ratio ahead = Ratio.of(0);
            for (long v : z.headMap(e).values()) {
                ahead = ahead.plus(Ratio.of(v).by(Ratio.of(n)));
            }
            Ratio later = Ratio.of(0);
            for (long v : z.tailMap(e).values()) {
                later = later.plus(Ratio.of(v).by(Ratio.of(m)));
            }
            Ratio apart = ahead.less(later).size();
            if (farthest == null || apart.less(farthest).sign() > 0) {
                farthest = apart;
                found = e;
            }
        }
        return found;
    }

    long common(int epoch, int side) {
        if (!in(epoch, 0, 39) || !in(side, 0, 1)) {
            throw new IllegalArgumentException();
        }
        long sum = 0;
        long n = 0;
        for (Ground g : marks) {
            TreeMap<Integer, Long> z = clearedOf(g, side);
            if (z.containsKey(epoch)) {
                sum += z.get(epoch) - z.firstEntry().getValue();
                n++;
            }
        }
        if (n == 0) {
            throw new IllegalStateException();
        }
        return sum / n;
    }

    int velocity(int mark, int east, int north) {
        if (!isMark(mark) || !in(east, -1000, 1000) || !in(north, -1000, 1000)) {
            return -1;
        }
        Ground g = marks.get(mark);
        boolean other = g.east != east || g.north != north;
        g.east = east;
        g.north = north;
        return other ? 1 : 0;
    }

    long moves(int mark, int side) {
        if (!isMark(mark) || !in(side, 0, 1)) {
            throw new IllegalArgumentException();
        }
        return side == 0 ? marks.get(mark).east : marks.get(mark).north;
    }

    int frame(int a, int b, int w) {
        if (!in(a, -1000, 1000) || !in(b, -1000, 1000) || !in(w, -9, 9)) {
            return -1;
        }
        for (Ground g : marks) {
            if (!in(g.east - a + w * g.y, -100000, 100000) || !in(g.north - b - w * g.x, -100000, 100000)) {
                return -2;
            }
        }
        for (Ground g : marks) {
            g.east = g.east - a + w * g.y;
            g.north = g.north - b - w * g.x;
        }
        return 1;
    }

    long strain(int a, int b, int c, int part, boolean lower) {
        if (!isMark(a) || !isMark(b) || !isMark(c) || !in(part, 0, 3)) {
            throw new IllegalArgumentException();
        }
        Ground o = marks.get(a);
        Ground p = marks.get(b);
        Ground q = marks.get(c);
        Ratio[][] places = {{Ratio.of(p.x - o.x), Ratio.of(p.y - o.y)}, {Ratio.of(q.x - o.x), Ratio.of(q.y - o.y)}};
        Ratio[] u = {Ratio.of(p.east - o.east), Ratio.of(q.east - o.east)};
        Ratio[] v = {Ratio.of(p.north - o.north), Ratio.of(q.north - o.north)};
        if ((long) (p.x - o.x) * (q.y - o.y) == (long) (q.x - o.x) * (p.y - o.y)) {
            throw new IllegalStateException();
        }
        // The slopes of east and north over the triangle, each by two equations.
        Ratio[] east = Ratio.solve(new Ratio[][] {{places[0][0], places[0][1], u[0]}, {places[1][0], places[1][1], u[1]}});
        Ratio[] north = Ratio.solve(new Ratio[][] {{places[0][0], places[0][1], v[0]}, {places[1][0], places[1][1], v[1]}});
        Ratio[] parts = {east[0], north[1], east[1].plus(north[0]), north[0].less(east[1])};
        return lower ? parts[part].below() : parts[part].above();
    }

    int block(int set) {
        if (set <= 0 || set >= 1 << marks.size()) {
            return -1;
        }
        return isBlock(set) ? 1 : 0;
    }

    /** Whether the equations a - w y = u, b + w x = v of all marks of a set have an answer. */
    private boolean isBlock(int set) {
        List<Ratio[]> rows = new ArrayList<>();
        for (int k = 0; k < marks.size(); k++) {
            if ((set & 1 << k) != 0) {
                Ground g = marks.get(k);
                rows.add(new Ratio[] {Ratio.of(1), Ratio.of(0), Ratio.of(-g.y), Ratio.of(g.east)});
                rows.add(new Ratio[] {Ratio.of(0), Ratio.of(1), Ratio.of(g.x), Ratio.of(g.north)});
            }
        }
        return Ratio.solve(rows.toArray(new Ratio[0][])) != null;
    }

    /** The best of all ways to share the marks out, as blocks in the order of their least marks. */
    private List<Integer> partition() {
        boolean[] isBlock = new boolean[1 << marks.size()];
        for (int set = 1; set < isBlock.length; set++) {
            isBlock[set] = isBlock(set);
        }
        List<List<Integer>> best = new ArrayList<>();
        share(0, new ArrayList<>(), isBlock, best);
        return best.get(0);
    }

    private void share(int k, List<Integer> blocks, boolean[] isBlock, List<List<Integer>> best) {
        if (k == marks.size()) {
            if (best.isEmpty() || better(blocks, best.get(0))) {
                best.clear();
                best.add(new ArrayList<>(blocks));
            }
            return;
        }
        for (int i = 0; i < blocks.size(); i++) {
            int before = blocks.get(i);
            if (isBlock[before | 1 << k]) {
                blocks.set(i, before | 1 << k);
                share(k + 1, blocks, isBlock, best);
                blocks.set(i, before);
            }
        }
        blocks.add(1 << k);
        share(k + 1, blocks, isBlock, best);
        blocks.remove(blocks.size() - 1);
    }

    private static boolean better(List<Integer> a, List<Integer> b) {
        if (a.size() != b.size()) {
            return a.size() < b.size();
        }
        for (int i = 0; i < a.size(); i++) {
            if (!a.get(i).equals(b.get(i))) {
                return a.get(i) < b.get(i);
            }
        }
        return false;
    }

    int blocks() {
        return marks.isEmpty() ? -3 : partition().size();
    }

    int of(int mark) {
        if (!isMark(mark)) {
            return -1;
        }
        for (int block : partition()) {
            if ((block & 1 << mark) != 0) {
                return block;
            }
        }
        throw new AssertionError("a mark in no block");
    }

    int green(int mark, int cut, int n) {
        if (!isMark(mark) || !in(cut, 0, 2) || !in(n, -20, 20)) {
            return -1001;
        }
        int before = marks.get(mark).green[cut];
        marks.get(mark).green[cut] = n;
        return before;
    }

    int tolerance(int n) {
        if (!in(n, 0, 100)) {
            return -1;
        }
        int before = tolerance;
        tolerance = n;
        return before;
    }

    private List<int[]> fitting() {
        List<int[]> all = new ArrayList<>();
        for (int n = 0; n < 4096; n++) {
            int[] s = {n / 256, n / 16 % 16, n % 16};
            boolean fits = true;
            for (Ground g : marks) {
                fits &= Math.abs(g.green[0] * s[0] + g.green[1] * s[1] + g.green[2] * s[2] - g.east) <= tolerance;
            }
            if (fits) {
                all.add(s);
            }
        }
        return all;
    }

    int fits() {
        return fitting().size();
    }

    int slip(int cut, boolean most) {
        if (!in(cut, 0, 2)) {
            return -1;
        }
        int end = -4;
        for (int[] s : fitting()) {
            if (end == -4 || (most ? s[cut] > end : s[cut] < end)) {
                end = s[cut];
            }
        }
        return end;
    }

    int locked() {
        if (fits() == 0) {
            return -4;
        }
        int bits = 0;
        for (int cut = 0; cut < 3; cut++) {
            bits += slip(cut, true) == 0 ? 1 << cut : 0;
        }
        return bits;
    }

    int line(int from, int to, int rise) {
        if (!isMark(from) || !isMark(to) || from == to || !in(rise, -10000, 10000)) {
            return -1;
        }
        if (lines.size() == 14) {
            return -2;
        }
        lines.add(new int[] {from, to, rise});
        return lines.size() - 1;
    }

    int unline() {
        if (lines.isEmpty()) {
            return -3;
        }
        lines.remove(lines.size() - 1);
        return lines.size();
    }

    /** Heights over a mark by lines that are not left out; none where no line leads. */
    private Long[] heights(int over, int leftOut) {
        Long[] h = new Long[10];
        h[over] = 0L;
        for (boolean more = true; more;) {
            more = false;
            for (int i = 0; i < lines.size(); i++) {
                int[] l = lines.get(i);
                if ((leftOut & 1 << i) != 0) {
                    continue;
                }
                if (h[l[0]] != null && h[l[1]] == null) {
                    h[l[1]] = h[l[0]] + l[2];
                    more = true;
                } else if (h[l[1]] != null && h[l[0]] == null) {
                    h[l[0]] = h[l[1]] - l[2];
                    more = true;
                }
            }
        }
        return h;
    }

    private boolean agree(int leftOut) {
        for (int over = 0; over < marks.size(); over++) {
            Long[] h = heights(over, leftOut);
            for (int i = 0; i < lines.size(); i++) {
                int[] l = lines.get(i);
                if ((leftOut & 1 << i) == 0 && h[l[0]] != null && h[l[1]] - h[l[0]] != l[2]) {
                    return false;
                }
            }
        }
        return true;
    }

    private int wrongLines() {
        for (int size = 0; size <= lines.size(); size++) {
            for (int set = 0; set < 1 << lines.size(); set++) {
                if (Integer.bitCount(set) == size && agree(set)) {
                    return set;
                }
            }
        }
        throw new AssertionError("without lines all agree");
    }

    int wrong(int what) {
        if (!in(what, 0, 1)) {
            return -1;
        }
        int set = wrongLines();
        return what == 0 ? Integer.bitCount(set) : set;
    }

    long height(int mark) {
        if (!isMark(mark)) {
            throw new IllegalArgumentException();
        }
        Long h = heights(0, wrongLines())[mark];
        if (h == null) {
            throw new IllegalStateException();
        }
        return h;
    }

    int count(int what) {
        int readings = 0;
        int steps = 0;
        for (Ground g : marks) {
            readings += g.readings.size();
            steps += g.steps.size();
        }
        int[] counts = {marks.size(), readings, steps, lines.size(), tolerance};
        return in(what, 0, 4) ? counts[what] : -1;
    }

    int keep(int d, int what, int k) {
        if (!in(d, 0, 7) || !in(what, 0, 4) || what == 2 || (what != 0 && !isMark(k))) {
            return -1;
        }
        Held held = new Held();
        if (what == 1) {
            held.mark = marks.get(k);
        } else if (what == 3) {
            held.ints = clearedOf(marks.get(k), 0).keySet().stream().mapToInt(e -> e).toArray();
        } else if (what == 4) {
            held.longs = clearedOf(marks.get(k), 0).values().stream().mapToLong(z -> z).toArray();
        }
        shelves[d] = what == 0 ? null : held;
        return 0;
    }

    int make(int d, int what, int n) {
        if (!in(d, 0, 7) || !in(what, 3, 4) || n > 60) {
            return -1;
        }
        if (n < 0) {
            return -14;
        }
        Held held = new Held();
        if (what == 3) {
            held.ints = new int[n];
        } else {
            held.longs = new long[n];
        }
        shelves[d] = held;
        return 0;
    }

    long element(int d, int i) {
        if (!in(d, 0, 7)) {
            throw new IllegalArgumentException();
        }
        Held held = shelves[d];
        if (held != null && held.ints != null && in(i, 0, held.ints.length - 1)) {
            return held.ints[i];
        }
        if (held != null && held.longs != null && in(i, 0, held.longs.length - 1)) {
            return held.longs[i];
        }
        throw new IllegalStateException();
    }

    int copy(int d, int i, int e, int j, int n) {
        if (!in(d, 0, 7) || !in(e, 0, 7)) {
            return -1;
        }
        Held from = shelves[d];
        Held to = shelves[e];
        if (from == null || to == null) {
            return -11;
        }
        boolean ints = from.ints != null && to.ints != null;
        boolean longs = from.longs != null && to.longs != null;
        if (!ints && !longs) {
            return -12;
        }
        long fromSize = ints ? from.ints.length : from.longs.length;
        long toSize = ints ? to.ints.length : to.longs.length;
        if (n < 0 || i < 0 || j < 0 || (long) i + n > fromSize || (long) j + n > toSize) {
            return -13;
        }
        int[] someInts = ints ? from.ints.clone() : null;
        long[] someLongs = longs ? from.longs.clone() : null;
        for (int k = 0; k < n; k++) {
            if (ints) {
                to.ints[j + k] = someInts[i + k];
            } else {
                to.longs[j + k] = someLongs[i + k];
            }
        }
        return n;
    }

    int weight(int d) {
        if (!in(d, 0, 7)) {
            return -1001;
        }
        if (shelves[d] == null) {
            return -1011;
        }
        Ground g = shelves[d].mark;
        if (g == null) {
            return -1012;
        }
        int[] weights = {10, 110 + g.offset, 220 + 2 * g.offset, 17};
        return weights[g.kind] + (g.kind == 2 ? 2 : 1) * g.readings.size();
    }

    int toss(int d) {
        if (!in(d, 0, 7)) {
            return -1;
        }
        if (shelves[d] == null) {
            return -11;
        }
        Ground g = shelves[d].mark;
        if (g == null) {
            return -12;
        }
        return g.kind == 1 || g.kind == 2 ? marks.indexOf(g) : -15;
    }
}
