import java.util.ArrayList;
import java.util.Arrays;
import java.util.HashSet;
import java.util.List;
import java.util.Set;

/**
 * The document once more, written as plainly and as unlike src/main/java/CaneHouse.java as it goes:
 * pictures are turned whole, sets are tried one by one. For comparison in ModelTest alone.
 */
final class PlainHouse {
    static final int BAD = -1, STATE = -2, FULL = -3, NONE = -9;

    static final class Stick {
        int[][] rows;
        int length;
        int fineness;
        int twist;
    }

    final int[] shrink = {0, 10, 20, 30, 40, 50, 60, 70, 80};
    final int[] cost = {0, 1, 1, 1, 1, 1, 1, 1, 1};
    final long[] came = new long[9];
    final long[] drops = new long[9];
    final List<Stick> canes = new ArrayList<>();
    int k = 2;
    int[][] laidCane = {{NONE, NONE}, {NONE, NONE}};
    int[][] laidTurn = new int[2][2];
    int tolerance = 15;
    int[][] wish = {{0}};
    int[][] slice = {{NONE}};
    final List<Integer> orders = new ArrayList<>();
    int saw = 1;
    final List<int[]> weighings = new ArrayList<>();
    long trace = 0;

    static int[][] turned(int[][] rows, int times) {
        int[][] now = rows;
        for (int i = 0; i < times; i++) {
            int p = now.length;
            int[][] then = new int[p][p];
            for (int y = 0; y < p; y++) {
                for (int x = 0; x < p; x++) {
                    then[y][x] = now[p - 1 - x][y];
                }
            }
            now = then;
        }
        return now;
    }

    static int[][] mirrored(int[][] rows) {
        int p = rows.length;
        int[][] then = new int[p][p];
        for (int y = 0; y < p; y++) {
            for (int x = 0; x < p; x++) {
                then[y][x] = rows[y][p - 1 - x];
            }
        }
        return then;
    }

    Stick cane(int i) {
        return i >= 0 && i < canes.size() ? canes.get(i) : null;
    }

    Stick live(int i) {
        Stick c = cane(i);
        return c != null && c.length > 0 ? c : null;
    }

    int add(int[][] rows, int length, int fineness, int twist) {
        Stick c = new Stick();
        c.rows = rows;
        c.length = length;
        c.fineness = fineness;
        c.twist = twist;
        canes.add(c);
        return canes.size() - 1;
    }

    long volume(Stick c, int g, int inches) {
        long cells = 0;
        for (int[] row : c.rows) {
            for (int v : row) {
                if (v == g) {
                    cells++;
                }
            }
        }
        return cells * inches * 4096 / c.fineness;
    }

    void dropInches(Stick c, int inches) {
        for (int g = 1; g <= 8; g++) {
            drops[g] += volume(c, g, inches);
        }
    }

    int glass(int g, int what, int v) {
        if (g < 1 || g > 8 || what < 0 || what > 1) return BAD;
        if (what == 0 ? v < 0 || v > 99 : v < 1 || v > 9) return BAD;
        int[] of = what == 0 ? shrink : cost;
        int was = of[g];
        of[g] = v;
        return was;
    }

    int rod(int g, int length) {
        if (g < 1 || g > 8 || length < 1 || length > 9999) return BAD;
        if (canes.size() == 16) return FULL;
        came[g] += length * 4096L;
        return add(new int[][] {{g}}, length, 1, 0);
    }

    int pull(int cane, int by) {
        Stick c = live(cane);
        if (c == null || by != 2 && by != 4) return BAD;
        int length = c.length * by - 2;
        if (length > 9999 || length < 1 || c.fineness * by > 4096) return STATE;
        c.length = length;
        c.fineness *= by;
        dropInches(c, 2);
        return length;
    }

    int twist(int cane, int v) {
        Stick c = live(cane);
        if (c == null || v < 0 || v > 40) return BAD;
        int was = c.twist;
        c.twist = v;
        return was;
    }

    int cut(int cane, int length) {
        Stick c = live(cane);
        if (c == null || length < 1 || length > c.length - 1) return BAD;
        if (canes.size() == 16) return FULL;
        int part = c.twist * length / c.length;
        int[][] rows = new int[c.rows.length][];
        for (int y = 0; y < rows.length; y++) rows[y] = c.rows[y].clone();
        c.twist -= part;
        c.length -= length;
        return add(rows, length, c.fineness, part);
    }

    int cased(int cane, int g) {
        Stick c = live(cane);
        if (c == null || g < 1 || g > 8) return BAD;
        int p = c.rows.length;
        if (p > 6 || c.twist > 0) return STATE;
        int[][] rows = new int[p + 2][p + 2];
        for (int[] row : rows) Arrays.fill(row, g);
        for (int y = 0; y < p; y++) System.arraycopy(c.rows[y], 0, rows[y + 1], 1, p);
        came[g] -= volume(c, g, c.length);
        c.rows = rows;
        came[g] += volume(c, g, c.length);
        return p + 2;
    }

    int drop(int cane) {
        Stick c = live(cane);
        if (c == null) return BAD;
        int was = c.length;
        dropInches(c, was);
        c.length = 0;
        return was;
    }

    int costOf(Stick c) {
        int sum = 0;
        for (int[] row : c.rows) for (int v : row) sum += cost[v];
        return sum;
    }

    int about(int cane, int what) {
        Stick c = cane(cane);
        if (c == null || what < 0 || what > 5) return BAD;
        int full = 0;
        for (int[] row : c.rows) for (int v : row) if (v > 0) full++;
        return new int[] {c.rows.length, c.length, c.fineness, c.twist, full, costOf(c)}[what];
    }

    int cell(int cane, int x, int y) {
        Stick c = cane(cane);
        if (c == null || x < 0 || y < 0 || x >= c.rows.length || y >= c.rows.length) return BAD;
        return c.rows[y][x];
    }

    int view(int kind, int cane, int x, int y, int z) {
        Stick c = live(cane);
        if (kind < 0 || kind > 2 || c == null || z < 0 || z >= c.length || cell(cane, x, y) < 0) return BAD;
        int p = c.rows.length;
        trace += new int[] {1, 11, 111}[kind];
        int[][] rows = kind == 0 ? c.rows : turned(c.rows, c.twist * z / c.length);
        return rows[y][kind == 2 ? p - 1 - x : x];
    }

    int table(int size) {
        if (size < 2 || size > 4) return BAD;
        k = size;
        laidCane = new int[k][k];
        laidTurn = new int[k][k];
        for (int[] row : laidCane) Arrays.fill(row, NONE);
        return k * k;
    }

    int lay(int x, int y, int cane, int turn) {
        if (x < 0 || y < 0 || x >= k || y >= k || turn < 0 || turn > 3) return -2;
        if (cane != NONE && cane(cane) == null) return -2;
        int was = laidCane[y][x];
        laidCane[y][x] = cane;
        laidTurn[y][x] = turn;
        return was;
    }

    int bundle(int l) {
        if (l < 1 || l > 9999) return BAD;
        int[] need = new int[16];
        Set<String> kinds = new HashSet<>();
        int p = 0;
        int fineness = 0;
        for (int[] row : laidCane) {
            for (int i : row) {
                Stick c = cane(i);
                if (c == null || c.twist > 0) return STATE;
                need[i] += l;
                p = c.rows.length;
                fineness = c.fineness;
                kinds.add(p + "/" + fineness);
            }
        }
        if (kinds.size() > 1 || k * p > 8) return STATE;
        for (int i = 0; i < 16; i++) if (need[i] > 0 && canes.get(i).length < need[i]) return STATE;
        if (canes.size() == 16) return FULL;
        int[][] rows = new int[k * p][k * p];
        for (int y = 0; y < k * p; y++) {
            for (int x = 0; x < k * p; x++) {
                Stick c = canes.get(laidCane[y / p][x / p]);
                rows[y][x] = turned(c.rows, laidTurn[y / p][x / p])[y % p][x % p];
            }
        }
        for (int i = 0; i < canes.size(); i++) canes.get(i).length -= need[i];
        return add(rows, l, fineness, 0);
    }

    long book(int g, int what) {
        if (g < 1 || g > 8 || what < 0 || what > 2) return BAD;
        if (what == 0) return came[g];
        if (what == 2) return drops[g];
        long sum = 0;
        for (Stick c : canes) sum += volume(c, g, c.length);
        return sum;
    }

    int tolerance(int v) {
        if (v < 0 || v > 99) return BAD;
        int was = tolerance;
        tolerance = v;
        return was;
    }

    boolean crack(int a, int b) {
        return a > 0 && b > 0 && Math.abs(shrink[a] - shrink[b]) > tolerance;
    }

    int cracks(int cane, int what) {
        Stick c = cane(cane);
        if (c == null || what < 0 || what > 1) return BAD;
        int p = c.rows.length;
        int[] beside = new int[p];
        int[] under = new int[p];
        int pairs = 0;
        for (int y = 0; y < p; y++) {
            for (int x = 0; x < p; x++) {
                if (x + 1 < p && crack(c.rows[y][x], c.rows[y][x + 1])) beside[y] |= 1 << x;
                if (y + 1 < p && crack(c.rows[y][x], c.rows[y + 1][x])) under[y] |= 1 << x;
            }
            pairs += Integer.bitCount(beside[y]) + Integer.bitCount(under[y]);
        }
        return what == 0 ? pairs : leastOut(p, beside, under);
    }

    /** Row by row, over all sets of cells that a row may keep. */
    static int leastOut(int p, int[] beside, int[] under) {
        int sets = 1 << p;
        int[] out = new int[sets];
        for (int y = 0; y < p; y++) {
            int[] then = new int[sets];
            for (int kept = 0; kept < sets; kept++) {
                int least = 1000;
                boolean stands = (kept & kept >> 1 & beside[y]) == 0;
                for (int above = 0; stands && above < (y == 0 ? 1 : sets); above++) {
                    if (y == 0 || (above & kept & under[y - 1]) == 0) least = Math.min(least, out[above]);
                }
                then[kept] = least + p - Integer.bitCount(kept);
            }
            out = then;
        }
        return Arrays.stream(out).min().getAsInt();
    }

    static boolean power(int side) {
        return side == 1 || side == 2 || side == 4 || side == 8;
    }

    int wish(int side) {
        if (!power(side)) return BAD;
        wish = new int[side][side];
        return side;
    }

    int want(int x, int y, int g) {
        if (x < 0 || y < 0 || x >= wish.length || y >= wish.length || g < 0 || g > 8) return BAD;
        int was = wish[y][x];
        wish[y][x] = g;
        return was;
    }

    int unlike(int side) {
        if (!power(side) || side > wish.length) return BAD;
        Set<String> names = new HashSet<>();
        for (int top = 0; top < wish.length; top += side) {
            for (int left = 0; left < wish.length; left += side) {
                int[][] part = new int[side][];
                for (int y = 0; y < side; y++) part[y] = Arrays.copyOfRange(wish[top + y], left, left + side);
                String least = null;
                for (int t = 0; t < 4; t++) {
                    String name = Arrays.deepToString(turned(part, t));
                    if (least == null || name.compareTo(least) < 0) least = name;
                }
                names.add(least);
            }
        }
        return names.size();
    }

    int plan(int m, int what) {
        if (m < 1 || m > 3 || what < 0 || what > 1) return BAD;
        int[] best = bestBelow(wish.length, m);
        return best[what];
    }

    /** The best row from a side on: what it bundles, its sides as bits; null if there is none. */
    private int[] bestBelow(int side, int more) {
        if (side == 1) return new int[] {0, 1};
        if (more == 0) return null;
        int[] best = null;
        for (int next = side / 2; next >= 1 && next * 8 >= side; next /= 2) {
            int[] rest = bestBelow(next, more - 1);
            if (rest != null && (best == null || rest[0] < best[0])) best = rest;
        }
        return best == null ? null : new int[] {best[0] + unlike(side), best[1] | side};
    }

    static boolean agrees(int[][] rows, int[][] told) {
        for (int y = 0; y < told.length; y++) {
            for (int x = 0; x < told.length; x++) {
                if (told[y][x] != NONE && told[y][x] != rows[y][x]) return false;
            }
        }
        return true;
    }

    static int showing(int[][] rows, int[][] told) {
        if (rows.length != told.length) return 0;
        int bits = 0;
        for (int t = 0; t < 8; t++) {
            if (agrees(turned(t < 4 ? rows : mirrored(rows), t % 4), told)) bits |= 1 << t;
        }
        return bits;
    }

    int made(int cane) {
        Stick c = cane(cane);
        return c == null ? BAD : showing(c.rows, wish);
    }

    int slice(int side) {
        if (side < 1 || side > 8) return BAD;
        slice = new int[side][side];
        for (int[] row : slice) Arrays.fill(row, NONE);
        return side;
    }

    int see(int x, int y, int v) {
        if (x < 0 || y < 0 || x >= slice.length || y >= slice.length) return -2;
        if (v != NONE && (v < 0 || v > 8)) return -2;
        int was = slice[y][x];
        slice[y][x] = v;
        return was;
    }

    int fits(int cane) {
        Stick c = cane(cane);
        return c == null ? BAD : showing(c.rows, slice);
    }

    int whose() {
        int bits = 0;
        for (int i = 0; i < canes.size(); i++) if (fits(i) > 0) bits += 1 << i;
        return bits;
    }

    int two(int first, int second) {
        Stick a = cane(first);
        Stick b = cane(second);
        if (a == null || b == null) return BAD;
        int p = slice.length;
        if (a.rows.length != p || b.rows.length != p) return 0;
        int sum = 0;
        for (int m = 1; m < p; m++) {
            for (int t = 0; t < 16; t++) {
                int[][] left = turned(a.rows, t / 4);
                int[][] right = turned(b.rows, t % 4);
                int[][] both = new int[p][p];
                for (int y = 0; y < p; y++) {
                    for (int x = 0; x < p; x++) both[y][x] = x < m ? left[y][x] : right[y][x];
                }
                if (agrees(both, slice)) sum++;
            }
        }
        return sum;
    }

    int bowl(int n, int side, int what) {
        if (n < 2 || n > 12 || side < 1 || side > 8 || what < 0 || what > 1) return BAD;
        List<int[][]> pictures = new ArrayList<>();
        List<Integer> costs = new ArrayList<>();
        for (Stick c : canes) {
            for (int t = 0; t < 4 && c.length > 0 && c.rows.length == side; t++) {
                pictures.add(turned(c.rows, t));
                costs.add(costOf(c));
            }
        }
        int size = pictures.size();
        boolean[][] meets = new boolean[size][size];
        for (int i = 0; i < size; i++) {
            for (int j = 0; j < size; j++) {
                meets[i][j] = true;
                for (int y = 0; y < side; y++) {
                    meets[i][j] &= pictures.get(i)[y][side - 1] == pictures.get(j)[y][0];
                }
            }
        }
        return what == 0 ? ways(n, meets) : cheapest(n, meets, costs);
    }

    /** Slice by slice, from each first slice on. */
    private static int ways(int n, boolean[][] meets) {
        int size = meets.length;
        long sum = 0;
        for (int first = 0; first < size; first++) {
            long[] now = new long[size];
            now[first] = 1;
            for (int step = 0; step < n; step++) {
                long[] then = new long[size];
                for (int i = 0; i < size; i++) {
                    for (int j = 0; now[i] != 0 && j < size; j++) {
                        if (meets[i][j]) then[j] = (then[j] + now[i]) % 1000000007L;
                    }
                }
                now = then;
            }
            sum += now[first];
        }
        return (int) (sum % 1000000007L);
    }

    private static int cheapest(int n, boolean[][] meets, List<Integer> costs) {
        int size = meets.length;
        long best = Long.MAX_VALUE;
        for (int first = 0; first < size; first++) {
            long[] now = new long[size];
            Arrays.fill(now, Long.MAX_VALUE);
            now[first] = 0;
            for (int step = 0; step < n; step++) {
                long[] then = new long[size];
                Arrays.fill(then, Long.MAX_VALUE);
                for (int i = 0; i < size; i++) {
                    for (int j = 0; now[i] != Long.MAX_VALUE && j < size; j++) {
                        if (meets[i][j]) then[j] = Math.min(then[j], now[i] + costs.get(i));
                    }
                }
                now = then;
            }
            best = Math.min(best, now[first]);
        }
        return best == Long.MAX_VALUE ? NONE : (int) best;
    }

    int order(int inches) {
        if (inches < 1 || inches > 99) return BAD;
        if (orders.size() == 8) return FULL;
        orders.add(inches);
        return orders.size();
    }

    int clear() {
        int was = orders.size();
        orders.clear();
        return was;
    }

    int saw(int v) {
        if (v < 0 || v > 3) return BAD;
        int was = saw;
        saw = v;
        return was;
    }

    int sticks(int length) {
        if (length < 1 || length > 300) return BAD;
        int least = sawOff(0, new ArrayList<>(), length);
        return least > 8 ? NONE : least;
    }

    /** Cuts the orders one by one, each of every stick that was begun and of a new one. */
    private int sawOff(int i, List<Integer> left, int length) {
        if (i == orders.size()) return left.size();
        int best = 9;
        for (int s = 0; s <= left.size(); s++) {
            int has = s == left.size() ? length : left.get(s);
            int inches = orders.get(i);
            int rest = has == inches ? 0 : has - inches - saw;
            if (rest < 0) continue;
            List<Integer> then = new ArrayList<>(left);
            if (s == left.size()) then.add(rest);
            else then.set(s, rest);
            best = Math.min(best, sawOff(i + 1, then, length));
        }
        return best;
    }

    /** How the scale stands if rod is the bad one, heavy (1) or light (-1). */
    static int outcome(int rod, int weight, int left, int right) {
        return (left >> rod & 1) == 1 ? weight : (right >> rod & 1) == 1 ? -weight : 0;
    }

    boolean left(int rod, int weight) {
        for (int[] w : weighings) if (outcome(rod, weight, w[0], w[1]) != w[2]) return false;
        return true;
    }

    int weigh(int left, int right, int outcome) {
        if (left < 1 || left > 511 || right < 1 || right > 511 || outcome < -1 || outcome > 1) return BAD;
        if ((left & right) != 0 || Integer.bitCount(left) != Integer.bitCount(right)) return BAD;
        if (weighings.size() == 6) return FULL;
        weighings.add(new int[] {left, right, outcome});
        return bad(0);
    }

    int anew() {
        int was = weighings.size();
        weighings.clear();
        return was;
    }

    int bad(int what) {
        if (what < 0 || what > 2) return BAD;
        int heavy = 0;
        int light = 0;
        for (int rod = 0; rod < 9; rod++) {
            if (left(rod, 1)) heavy |= 1 << rod;
            if (left(rod, -1)) light |= 1 << rod;
        }
        return what == 0 ? Integer.bitCount(heavy) + Integer.bitCount(light) : what == 1 ? heavy : light;
    }

    int next(int what) {
        if (what < 0 || what > 2) return BAD;
        if (bad(0) == 0) return STATE;
        int heavy = bad(1);
        int light = bad(2);
        long best = Long.MAX_VALUE;
        for (int l = 1; l < 512; l++) {
            for (int r = 1; r < 512; r++) {
                if ((l & r) != 0 || Integer.bitCount(l) != Integer.bitCount(r)) continue;
                int[] by = new int[3];
                for (int rod = 0; rod < 9; rod++) {
                    if ((heavy >> rod & 1) == 1) by[1 + outcome(rod, 1, l, r)]++;
                    if ((light >> rod & 1) == 1) by[1 + outcome(rod, -1, l, r)]++;
                }
                long most = Math.max(by[0], Math.max(by[1], by[2]));
                best = Math.min(best, ((most * 10 + Integer.bitCount(l)) * 512 + l) * 512 + r);
            }
        }
        return (int) (what == 0 ? best / 512 % 512 : what == 1 ? best % 512 : best / 512 / 512 / 10);
    }

    int count(int what) {
        switch (what) {
            case 0: return canes.size();
            case 1: return (int) canes.stream().filter(c -> c.length > 0).count();
            case 2: return k;
            case 3: return (int) Arrays.stream(slice).flatMapToInt(Arrays::stream).filter(v -> v != NONE).count();
            case 4: return orders.size();
            case 5: return weighings.size();
            default: return BAD;
        }
    }

    long trace() {
        return trace;
    }
}
