import java.math.BigInteger;
import java.util.ArrayList;
import java.util.Arrays;
import java.util.List;
import java.util.NoSuchElementException;

/**
 * The document told once more, as plainly and slowly as can be and by other ways than GrainYard's: places topple one
 * at a time, kinds by fractions, parts by the common divisors of all minors, what comes again by grains from the hole.
 */
final class PlainYard {
    private static final class Yard {
        int places;
        int[][] paths;
        boolean fixed;
    }

    private static final class Heap {
        Yard yard;
        long[] grains;
        long[] toppled;
        long lost;
    }

    private final List<Yard> yards = new ArrayList<>();
    private final List<Heap> heaps = new ArrayList<>();

    int yard(int places) {
        if (yards.size() == 6 || places < 2 || places > 8) {
            return -1;
        }
        Yard y = new Yard();
        y.places = places;
        y.paths = new int[places][places];
        yards.add(y);
        return yards.size() - 1;
    }

    int path(int yard, int a, int b, int n) {
        Yard y = yardAt(yard);
        place(y, a, 0);
        place(y, b, 0);
        if (n < 0 || n > 3 || a == b || y.fixed) {
            return -1;
        }
        int before = y.paths[a][b];
        y.paths[a][b] = n;
        y.paths[b][a] = n;
        return before;
    }

    int degree(int yard, int place) {
        Yard y = yardAt(yard);
        place(y, place, 0);
        return degreeOf(y, place);
    }

    boolean whole(int yard) {
        return isWhole(yardAt(yard));
    }

    long trees(int yard) {
        Yard y = yardAt(yard);
        return isWhole(y) ? determinant(laplacian(y)).longValueExact() : 0;
    }

    long part(int yard, int i) {
        Yard y = yardAt(yard);
        if (!isWhole(y)) {
            throw new IllegalStateException();
        }
        List<Long> parts = partsOf(y);
        if (i == -1) {
            return parts.size();
        }
        if (i < 0 || i >= parts.size()) {
            throw new NoSuchElementException();
        }
        return parts.get(i);
    }

    int heap(int yard) {
        Yard y = yardAt(yard);
        if (heaps.size() == 20 || !isWhole(y)) {
            return -1;
        }
        y.fixed = true;
        Heap h = new Heap();
        h.yard = y;
        h.grains = new long[y.places];
        h.toppled = new long[y.places];
        heaps.add(h);
        return heaps.size() - 1;
    }

    int set(int heap, int place, int n) {
        Heap h = heapAt(heap);
        place(h.yard, place, 1);
        if (n < 0 || n > 100000) {
            throw new IllegalArgumentException();
        }
        int before = (int) h.grains[place];
        h.grains[place] = n;
        return before;
    }

    long grains(int heap, int place) {
        Heap h = heapAt(heap);
        place(h.yard, place, 0);
        return place == 0 ? h.lost : h.grains[place];
    }

    boolean topple(int heap, int place) {
        Heap h = heapAt(heap);
        place(h.yard, place, 1);
        if (h.grains[place] < degreeOf(h.yard, place)) {
            return false;
        }
        toppleOnce(h.yard, h.grains, place);
        h.lost += h.yard.paths[place][0];
        return true;
    }

    long settle(int heap) {
        return settleHeap(heapAt(heap));
    }

    long drop(int heap, int place) {
        Heap h = heapAt(heap);
        place(h.yard, place, 1);
        h.grains[place]++;
        return settleHeap(h);
    }

    long toppled(int heap, int place) {
        Heap h = heapAt(heap);
        place(h.yard, place, 0);
        return h.toppled[place];
    }

    boolean is(int heap, int what) {
        Heap h = heapAt(heap);
        if (what == 0) {
            return isStill(h.yard, h.grains);
        }
        if (what == 1) {
            return comesAgain(h.yard, h.grains);
        }
        throw new NoSuchElementException();
    }

    int burns(int heap, int place) {
        Heap h = heapAt(heap);
        place(h.yard, place, 0);
        return isStill(h.yard, h.grains) ? burning(h.yard, h.grains)[place] : -1;
    }

    long add(int heap, int other) {
        Heap h = heapAt(heap);
        Heap o = heapAt(other);
        if (h.yard != o.yard) {
            throw new IllegalArgumentException();
        }
        long[] more = o.grains.clone();
        for (int v = 1; v < h.yard.places; v++) {
            h.grains[v] += more[v];
        }
        return settleHeap(h);
    }

    void become(int heap, int what) {
        Heap h = heapAt(heap);
        if (what < 0 || what > 4) {
            throw new NoSuchElementException();
        }
        long[] none = new long[h.yard.places];
        if (what == 0) {
            h.grains = none;
        } else if (what == 1) {
            for (int v = 1; v < h.yard.places; v++) {
                h.grains[v] = degreeOf(h.yard, v) - 1;
            }
        } else if (what == 2) {
            h.grains = again(h.yard, none);
        } else if (what == 3) {
            long times = orderOf(h.yard, h.grains) - 1;
            h.grains = again(h.yard, multiple(h.yard, h.grains, times));
        } else {
            h.grains = again(h.yard, h.grains);
        }
    }

    boolean alike(int heap, int other) {
        Heap h = heapAt(heap);
        Heap o = heapAt(other);
        if (h.yard != o.yard) {
            throw new IllegalArgumentException();
        }
        long[] rest = new long[h.yard.places];
        for (int v = 1; v < rest.length; v++) {
            rest[v] = h.grains[v] - o.grains[v];
        }
        return orderOf(h.yard, rest) == 1;
    }

    long order(int heap) {
        Heap h = heapAt(heap);
        return orderOf(h.yard, h.grains);
    }

    int tree(int heap, int place, int what) {
        Heap h = heapAt(heap);
        place(h.yard, place, 1);
        if (what != 0 && what != 1) {
            throw new NoSuchElementException();
        }
        if (!comesAgain(h.yard, h.grains)) {
            throw new IllegalStateException();
        }
        int[] rounds = burning(h.yard, h.grains);
        List<int[]> back = pathsBack(h.yard, rounds, place);
        long j = h.grains[place] - degreeOf(h.yard, place) + pathsAhead(h.yard, rounds, place);
        return back.get((int) j)[what];
    }

    boolean grow(int heap, long tree) {
        Heap h = heapAt(heap);
        int n = h.yard.places;
        int[] to = new int[n];
        int[] which = new int[n];
        for (int v = 1; v < n; v++) {
            long bits = (tree >> (5 * (v - 1))) % 32;
            bits = bits < 0 ? bits + 32 : bits;
            to[v] = (int) (bits % 8);
            which[v] = (int) (bits / 8);
            if (to[v] >= n || which[v] >= h.yard.paths[v][to[v]]) {
                return false;
            }
        }
        int[] rounds = new int[n];
        for (int v = 1; v < n; v++) {
            int at = v;
            while (at != 0 && rounds[v] <= n) {
                at = to[at];
                rounds[v]++;
            }
            if (at != 0) {
                return false;
            }
        }
        for (int v = 1; v < n; v++) {
            List<int[]> back = pathsBack(h.yard, rounds, v);
            for (int j = 0; j < back.size(); j++) {
                if (back.get(j)[0] == to[v] && back.get(j)[1] == which[v]) {
                    h.grains[v] = degreeOf(h.yard, v) - pathsAhead(h.yard, rounds, v) + j;
                }
            }
        }
        return true;
    }

    int count(int what) {
        if (what == 0) {
            return yards.size();
        }
        if (what == 1) {
            return heaps.size();
        }
        throw new NoSuchElementException();
    }

    private Yard yardAt(int i) {
        if (i < 0 || i >= yards.size()) {
            throw new NoSuchElementException();
        }
        return yards.get(i);
    }

    private Heap heapAt(int i) {
        if (i < 0 || i >= heaps.size()) {
            throw new NoSuchElementException();
        }
        return heaps.get(i);
    }

    private static void place(Yard y, int place, int first) {
        if (place < first || place >= y.places) {
            throw new NoSuchElementException();
        }
    }

    private static int degreeOf(Yard y, int place) {
        return Arrays.stream(y.paths[place]).sum();
    }

    private static boolean isWhole(Yard y) {
        boolean[] seen = new boolean[y.places];
        List<Integer> open = new ArrayList<>(List.of(0));
        seen[0] = true;
        for (int i = 0; i < open.size(); i++) {
            for (int w = 0; w < y.places; w++) {
                if (!seen[w] && y.paths[open.get(i)][w] > 0) {
                    seen[w] = true;
                    open.add(w);
                }
            }
        }
        return open.size() == y.places;
    }

    private static void toppleOnce(Yard y, long[] grains, int place) {
        grains[place] -= degreeOf(y, place);
        for (int w = 1; w < y.places; w++) {
            grains[w] += y.paths[place][w];
        }
    }

    private static boolean isStill(Yard y, long[] grains) {
        for (int v = 1; v < y.places; v++) {
            if (grains[v] >= degreeOf(y, v)) {
                return false;
            }
        }
        return true;
    }

    /** Always the highest place that may topple, once; answers how often each did. */
    private static long[] settleRow(Yard y, long[] grains) {
        long[] times = new long[y.places];
        int[] degrees = new int[y.places];
        for (int v = 0; v < y.places; v++) {
            degrees[v] = degreeOf(y, v);
        }
        int v = y.places - 1;
        while (v > 0) {
            if (grains[v] < degrees[v]) {
                v--;
                continue;
            }
            grains[v] -= degrees[v];
            times[v]++;
            for (int w = 1; w < y.places; w++) {
                grains[w] += y.paths[v][w];
            }
            v = y.places - 1;
        }
        return times;
    }

    private static long settleHeap(Heap h) {
        h.toppled = settleRow(h.yard, h.grains);
        for (int v = 1; v < h.yard.places; v++) {
            h.lost += h.toppled[v] * h.yard.paths[v][0];
        }
        return Arrays.stream(h.toppled).sum();
    }

    private static int[] burning(Yard y, long[] grains) {
        int[] rounds = new int[y.places];
        Arrays.fill(rounds, 1, y.places, -1);
        for (int round = 1; round <= y.places; round++) {
            int[] before = rounds.clone();
            for (int v = 1; v < y.places; v++) {
                int open = 0;
                for (int w = 0; w < y.places; w++) {
                    open += before[w] < 0 ? y.paths[v][w] : 0;
                }
                if (before[v] < 0 && grains[v] >= open) {
                    rounds[v] = round;
                }
            }
        }
        return rounds;
    }

    private static boolean comesAgain(Yard y, long[] grains) {
        return isStill(y, grains) && Arrays.stream(burning(y, grains)).min().getAsInt() >= 0;
    }

    private static int pathsAhead(Yard y, int[] rounds, int v) {
        int sum = 0;
        for (int w = 0; w < y.places; w++) {
            sum += rounds[w] < rounds[v] ? y.paths[v][w] : 0;
        }
        return sum;
    }

    private static List<int[]> pathsBack(Yard y, int[] rounds, int v) {
        List<int[]> back = new ArrayList<>();
        for (int w = 0; w < y.places; w++) {
            for (int k = 0; k < y.paths[v][w] && rounds[w] == rounds[v] - 1; k++) {
                back.add(new int[] {w, k});
            }
        }
        return back;
    }

    /** Grains along the paths from the hole are of the kind of none; what they leave as it is comes again. */
    private static long[] again(Yard y, long[] grains) {
        long[] row = grains.clone();
        settleRow(y, row);
        while (true) {
            long[] next = row.clone();
            for (int v = 1; v < y.places; v++) {
                next[v] += y.paths[0][v];
            }
            settleRow(y, next);
            if (Arrays.equals(next, row)) {
                return row;
            }
            row = next;
        }
    }

    private static long[] multiple(Yard y, long[] grains, long times) {
        long[] sum = new long[y.places];
        long[] power = grains.clone();
        settleRow(y, power);
        for (long rest = times; rest > 0; rest /= 2) {
            for (int v = 1; v < y.places && rest % 2 == 1; v++) {
                sum[v] += power[v];
            }
            settleRow(y, sum);
            for (int v = 1; v < y.places; v++) {
                power[v] *= 2;
            }
            settleRow(y, power);
        }
        return sum;
    }

    private static BigInteger[][] laplacian(Yard y) {
        BigInteger[][] m = new BigInteger[y.places - 1][y.places - 1];
        for (int r = 1; r < y.places; r++) {
            for (int c = 1; c < y.places; c++) {
                m[r - 1][c - 1] = BigInteger.valueOf(r == c ? degreeOf(y, r) : -y.paths[r][c]);
            }
        }
        return m;
    }

    /** By the first row, with the rest picked by a mask of columns. */
    private static BigInteger determinant(BigInteger[][] m) {
        int n = m.length;
        BigInteger[] below = new BigInteger[1 << n];
        below[0] = BigInteger.ONE;
        for (int mask = 1; mask < 1 << n; mask++) {
            int row = n - Integer.bitCount(mask);
            BigInteger sum = BigInteger.ZERO;
            int sign = 1;
            for (int c = 0; c < n; c++) {
                if ((mask >> c & 1) == 1) {
                    BigInteger term = m[row][c].multiply(below[mask & ~(1 << c)]);
                    sum = sign > 0 ? sum.add(term) : sum.subtract(term);
                    sign = -sign;
                }
            }
            below[mask] = sum;
        }
        return below[(1 << n) - 1];
    }

    /** By Cramer: the least number that makes all of them whole. */
    private static long orderOf(Yard y, long[] grains) {
        BigInteger[][] m = laplacian(y);
        BigInteger all = determinant(m);
        BigInteger order = BigInteger.ONE;
        for (int c = 0; c < m.length; c++) {
            BigInteger[][] swapped = new BigInteger[m.length][];
            for (int r = 0; r < m.length; r++) {
                swapped[r] = m[r].clone();
                swapped[r][c] = BigInteger.valueOf(grains[r + 1]);
            }
            BigInteger below = all.divide(all.gcd(determinant(swapped)));
            order = order.multiply(below).divide(order.gcd(below));
        }
        return order.longValueExact();
    }

    private static List<Long> partsOf(Yard y) {
        BigInteger[][] m = laplacian(y);
        int n = m.length;
        BigInteger[] common = new BigInteger[n + 1];
        Arrays.fill(common, BigInteger.ZERO);
        common[0] = BigInteger.ONE;
        for (int rows = 1; rows < 1 << n; rows++) {
            for (int columns = 1; columns < 1 << n; columns++) {
                int size = Integer.bitCount(rows);
                if (size == Integer.bitCount(columns)) {
                    common[size] = common[size].gcd(determinant(minor(m, rows, columns, size)));
                }
            }
        }
        List<Long> parts = new ArrayList<>();
        for (int k = 1; k <= n; k++) {
            long part = common[k].divide(common[k - 1]).longValueExact();
            if (part > 1) {
                parts.add(part);
            }
        }
        return parts;
    }

    private static BigInteger[][] minor(BigInteger[][] m, int rows, int columns, int size) {
        BigInteger[][] small = new BigInteger[size][size];
        int i = 0;
        for (int r = 0; r < m.length; r++) {
            if ((rows >> r & 1) == 0) {
                continue;
            }
            int j = 0;
            for (int c = 0; c < m.length; c++) {
                if ((columns >> c & 1) == 1) {
                    small[i][j++] = m[r][c];
                }
            }
            i++;
        }
        return small;
    }
}
