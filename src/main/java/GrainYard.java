import java.util.Arrays;
import java.util.NoSuchElementException;

/** Yards of places joined by paths, and heaps of grains in them that topple. */
public final class GrainYard {
    public static final int NONE = -1;

    private static final int MOST_YARDS = 6;
    private static final int MOST_HEAPS = 20;
    private static final int FEWEST_PLACES = 2;
    private static final int MOST_PLACES = 8;
    private static final int MOST_PATHS = 3;
    private static final int MOST_GRAINS_SET = 100000;

    private static final int NO_GRAINS = 0;
    private static final int FULLEST = 1;
    private static final int NOTHING = 2;
    private static final int OPPOSITE = 3;
    private static final int COMING_AGAIN = 4;

    private final Yard[] yards;
    private final Heap[] heaps;
    private int yardCount;
    private int heapCount;
    private final Fire fire;
    private final Kinds kinds;
    private final Parts parts;

    public GrainYard() {
        yards = new Yard[MOST_YARDS];
        heaps = new Heap[MOST_HEAPS];
        yardCount = 0;
        heapCount = 0;
        fire = new Fire();
        kinds = new Kinds();
        parts = new Parts();
    }

    public int yard(int places) {
        if (yardCount >= MOST_YARDS || places < FEWEST_PLACES || places > MOST_PLACES) {
            return NONE;
        }
        yards[yardCount] = new Yard(places);
        yardCount++;
        return yardCount - 1;
    }

    public int path(int yard, int a, int b, int n) throws NoSuchElementException {
        Yard at = yardNumbered(yard);
        requirePlace(at, a, 0);
        requirePlace(at, b, 0);
        if (n < 0 || n > MOST_PATHS || a == b || at.fixed) {
            return NONE;
        }
        return at.lay(a, b, n);
    }

    public int degree(int yard, int place) throws NoSuchElementException {
        Yard at = yardNumbered(yard);
        requirePlace(at, place, 0);
        return at.degrees[place];
    }

    public boolean whole(int yard) throws NoSuchElementException {
        return yardNumbered(yard).isJoined();
    }

    public long trees(int yard) throws NoSuchElementException {
        return kinds.howMany(yardNumbered(yard));
    }

    public long part(int yard, int i) throws NoSuchElementException, IllegalStateException {
        Yard at = yardNumbered(yard);
        // A yard that isn't whole has no parts to look for, so this is told first.
        if (!at.isJoined()) {
            throw new IllegalStateException("the yard isn't whole");
        }
        int found = parts.split(at, kinds.howMany(at));
        if (i == NONE) {
            return found;
        }
        if (i < 0 || i >= found) {
            throw new NoSuchElementException("no such part");
        }
        return parts.told(i);
    }

    public int heap(int yard) throws NoSuchElementException {
        Yard at = yardNumbered(yard);
        if (heapCount >= MOST_HEAPS || !at.isJoined()) {
            return NONE;
        }
        at.fixed = true;
        heaps[heapCount] = new Heap(at);
        heapCount++;
        return heapCount - 1;
    }

    public int set(int heap, int place, int n) throws NoSuchElementException, IllegalArgumentException {
        Heap it = heapNumbered(heap);
        requirePlace(it.yard, place, 1);
        if (n < 0 || n > MOST_GRAINS_SET) {
            throw new IllegalArgumentException("grains are 0 to 100,000");
        }
        int before = (int) it.grains[place];
        it.grains[place] = n;
        return before;
    }

    public long grains(int heap, int place) throws NoSuchElementException {
        Heap it = heapNumbered(heap);
        requirePlace(it.yard, place, 0);
        return it.grains[place];
    }

    public boolean topple(int heap, int place) throws NoSuchElementException {
        Heap it = heapNumbered(heap);
        requirePlace(it.yard, place, 1);
        if (it.grains[place] < it.yard.degrees[place]) {
            return false;
        }
        it.yard.fell(it.grains, place, 1L);
        return true;
    }

    public long settle(int heap) throws NoSuchElementException {
        return heapNumbered(heap).calm();
    }

    public long drop(int heap, int place) throws NoSuchElementException {
        Heap it = heapNumbered(heap);
        requirePlace(it.yard, place, 1);
        it.grains[place]++;
        return it.calm();
    }

    public long toppled(int heap, int place) throws NoSuchElementException {
        Heap it = heapNumbered(heap);
        requirePlace(it.yard, place, 0);
        return it.falls[place];
    }

    public boolean is(int heap, int what) throws NoSuchElementException {
        Heap it = heapNumbered(heap);
        switch (what) {
            case 0:
                return it.yard.isCalm(it.grains);
            case 1:
                return fire.burnsAll(it.yard, it.grains);
            default:
                throw new NoSuchElementException("no such question");
        }
    }

    public int burns(int heap, int place) throws NoSuchElementException {
        Heap it = heapNumbered(heap);
        requirePlace(it.yard, place, 0);
        fire.burnsAll(it.yard, it.grains);
        return fire.rounds[place];
    }

    public long add(int heap, int other) throws NoSuchElementException, IllegalArgumentException {
        Heap it = heapNumbered(heap);
        Heap more = heapNumbered(other);
        requireOneYard(it, more);
        for (int place = 1; place < it.yard.places; place++) {
            it.grains[place] += more.grains[place];
        }
        return it.calm();
    }

    public void become(int heap, int what) throws NoSuchElementException {
        Heap it = heapNumbered(heap);
        switch (what) {
            case NO_GRAINS:
                it.take(kinds.noGrains());
                break;
            case FULLEST:
                it.take(kinds.fullest(it.yard));
                break;
            case NOTHING:
                it.take(kinds.comingAgain(it.yard, kinds.noGrains()));
                break;
            case OPPOSITE:
                it.take(kinds.comingAgain(it.yard, kinds.against(it.yard, it.grains)));
                break;
            case COMING_AGAIN:
                it.take(kinds.comingAgain(it.yard, it.grains));
                break;
            default:
                throw new NoSuchElementException("no such heap to become");
        }
    }

    public boolean alike(int heap, int other) throws NoSuchElementException, IllegalArgumentException {
        Heap it = heapNumbered(heap);
        Heap that = heapNumbered(other);
        requireOneYard(it, that);
        return kinds.timesToNothing(it.yard, it.grains, that.grains) == 1L;
    }

    public long order(int heap) throws NoSuchElementException {
        Heap it = heapNumbered(heap);
        return kinds.timesToNothing(it.yard, it.grains, kinds.noGrains());
    }

    public int tree(int heap, int place, int what) throws NoSuchElementException, IllegalStateException {
        Heap it = heapNumbered(heap);
        requirePlace(it.yard, place, 1);
        if (what != 0 && what != 1) {
            throw new NoSuchElementException("no such question");
        }
        if (!fire.burnsAll(it.yard, it.grains)) {
            throw new IllegalStateException("the heap doesn't come again");
        }
        return what == 0 ? fire.leadsTo(it.yard, it.grains, place) : fire.byPath(it.yard, it.grains, place);
    }

    public boolean grow(int heap, long tree) throws NoSuchElementException {
        Heap it = heapNumbered(heap);
        if (!fire.followsTree(it.yard, tree)) {
            return false;
        }
        for (int place = 1; place < it.yard.places; place++) {
            it.grains[place] = fire.grainsByTree(it.yard, tree, place);
        }
        return true;
    }

    public int count(int what) throws NoSuchElementException {
        switch (what) {
            case 0:
                return yardCount;
            case 1:
                return heapCount;
            default:
                throw new NoSuchElementException("no such count");
        }
    }

    private Yard yardNumbered(int number) throws NoSuchElementException {
        Yard found = number >= 0 && number < yardCount ? yards[number] : null;
        if (found == null) {
            throw new NoSuchElementException("no such yard");
        }
        return found;
    }

    private Heap heapNumbered(int number) throws NoSuchElementException {
        Heap found = number >= 0 && number < heapCount ? heaps[number] : null;
        if (found == null) {
            throw new NoSuchElementException("no such heap");
        }
        return found;
    }

    private static void requirePlace(Yard yard, int place, int first) throws NoSuchElementException {
        if (place < first || place >= yard.places) {
            throw new NoSuchElementException("no such place");
        }
    }

    private static void requireOneYard(Heap one, Heap other) throws IllegalArgumentException {
        if (one.yard != other.yard) {
            throw new IllegalArgumentException("the heaps are in two yards");
        }
    }

    private static long commonDivisor(long a, long b) {
        long high = Math.abs(a);
        long low = Math.abs(b);
        // Euclid's steps in 64 bits are fewer than 100.
        for (int step = 0; step < 100 && low != 0L; step++) {
            long rest = high % low;
            high = low;
            low = rest;
        }
        return high;
    }

    /** Places and the paths between them; and how rows of grains fall there. */
    private static final class Yard {
        // The slowest yards (8 places, one path to the hole) take about a thousand sweeps.
        static final int MOST_SWEEPS = 1000000;

        final int places;
        final int[][] paths;
        final int[] degrees;
        boolean fixed;

        Yard(int places) {
            this.places = places;
            this.paths = new int[MOST_PLACES][MOST_PLACES];
            this.degrees = new int[MOST_PLACES];
            this.fixed = false;
        }

        int lay(int a, int b, int n) {
            int before = paths[a][b];
            paths[a][b] = n;
            paths[b][a] = n;
            degrees[a] += n - before;
            degrees[b] += n - before;
            return before;
        }

        boolean isJoined() {
            int reached = 1;
            for (int round = 1; round < places; round++) {
                for (int place = 1; place < places; place++) {
                    if (touches(place, reached)) {
                        reached |= 1 << place;
                    }
                }
            }
            return reached == (1 << places) - 1;
        }

        private boolean touches(int place, int reached) {
            for (int other = 0; other < places; other++) {
                if ((reached >> other & 1) == 1 && paths[place][other] > 0) {
                    return true;
                }
            }
            return false;
        }

        boolean isCalm(long[] grains) {
            for (int place = 1; place < places; place++) {
                if (grains[place] >= degrees[place]) {
                    return false;
                }
            }
            return true;
        }

        void fell(long[] grains, int place, long times) {
            grains[place] -= times * degrees[place];
            for (int other = 0; other < places; other++) {
                grains[other] += times * paths[place][other];
            }
        }

        /** Falls of a place are taken together: the end is the same in whatever order. */
        long calm(long[] grains, long[] falls) {
            Arrays.fill(falls, 0L);
            long all = 0L;
            boolean moving = true;
            for (int sweep = 0; moving && sweep < MOST_SWEEPS; sweep++) {
                moving = false;
                for (int place = 1; place < places; place++) {
                    long times = fallsDue(grains, place);
                    if (times > 0L) {
                        fell(grains, place, times);
                        falls[place] += times;
                        all += times;
                        moving = true;
                    }
                }
            }
            return all;
        }

        private long fallsDue(long[] grains, int place) {
            int degree = degrees[place];
            return degree <= 0 ? 0L : grains[place] / degree;
        }
    }

    /** Grains in a yard. The lost ones are held as those of place 0. */
    private static final class Heap {
        final Yard yard;
        final long[] grains;
        final long[] falls;

        Heap(Yard yard) {
            this.yard = yard;
            this.grains = new long[MOST_PLACES];
            this.falls = new long[MOST_PLACES];
        }

        long calm() {
            return yard.calm(grains, falls);
        }

        /** Place 0 is left out: the lost ones stay. */
        void take(long[] row) {
            for (int place = 1; place < yard.places; place++) {
                grains[place] = row[place];
            }
        }
    }

    /** The rounds in which places burn, by a heap or by a tree, and what follows of them. */
    private static final class Fire {
        static final int BITS_OF_PLACE = 5;

        final int[] rounds;

        Fire() {
            rounds = new int[MOST_PLACES];
        }

        boolean burnsAll(Yard yard, long[] grains) {
            Arrays.fill(rounds, NONE);
            if (!yard.isCalm(grains)) {
                return false;
            }
            rounds[0] = 0;
            for (int round = 1; round < yard.places; round++) {
                for (int place = 1; place < yard.places; place++) {
                    if (rounds[place] == NONE && grains[place] >= leastToBurn(yard, place, round)) {
                        rounds[place] = round;
                    }
                }
            }
            return allHaveRounds(yard);
        }

        private boolean allHaveRounds(Yard yard) {
            for (int place = 0; place < yard.places; place++) {
                if (rounds[place] == NONE) {
                    return false;
                }
            }
            return true;
        }

        private int leastToBurn(Yard yard, int place, int round) {
            int least = yard.degrees[place];
            for (int other = 0; other < yard.places; other++) {
                if (rounds[other] != NONE && rounds[other] < round) {
                    least -= yard.paths[place][other];
                }
            }
            return least;
        }

        /** Paths to the places of the round just ahead, but only to those below a place. */
        private int pathsBack(Yard yard, int place, int below) {
            int sum = 0;
            for (int other = 0; other < below; other++) {
                if (rounds[other] == rounds[place] - 1) {
                    sum += yard.paths[place][other];
                }
            }
            return sum;
        }

        int leadsTo(Yard yard, long[] grains, int place) {
            long rank = grains[place] - leastToBurn(yard, place, rounds[place]);
            for (int other = 0; other < yard.places; other++) {
                if (pathsBack(yard, place, other + 1) > rank) {
                    return other;
                }
            }
            return NONE;
        }

        int byPath(Yard yard, long[] grains, int place) {
            long rank = grains[place] - leastToBurn(yard, place, rounds[place]);
            return (int) rank - pathsBack(yard, place, leadsTo(yard, grains, place));
        }

        private static int targetIn(long tree, int place) {
            return (int) (tree >>> (BITS_OF_PLACE * (place - 1))) & 7;
        }

        private static int pathIn(long tree, int place) {
            return (int) (tree >>> (BITS_OF_PLACE * (place - 1) + 3)) & 3;
        }

        /** Rounds by the places' ways to the hole. False: it is no tree. */
        boolean followsTree(Yard yard, long tree) {
            Arrays.fill(rounds, NONE);
            rounds[0] = 0;
            for (int place = 1; place < yard.places; place++) {
                if (pathIn(tree, place) >= yard.paths[place][targetIn(tree, place)]) {
                    return false;
                }
            }
            for (int round = 1; round < yard.places; round++) {
                for (int place = 1; place < yard.places; place++) {
                    if (rounds[targetIn(tree, place)] == round - 1) {
                        rounds[place] = round;
                    }
                }
            }
            return allHaveRounds(yard);
        }

        int grainsByTree(Yard yard, long tree, int place) {
            int rank = pathsBack(yard, place, targetIn(tree, place)) + pathIn(tree, place);
            return leastToBurn(yard, place, rounds[place]) + rank;
        }
    }

    /** Kinds of heaps: that which comes again of each, how many there are, and their orders. */
    private static final class Kinds {
        final long[] zeros;
        final long[] full;
        final long[] lift;
        final long[] source;
        final long[] falls;
        final long[][] table;

        Kinds() {
            zeros = new long[MOST_PLACES];
            full = new long[MOST_PLACES];
            lift = new long[MOST_PLACES];
            source = new long[MOST_PLACES];
            falls = new long[MOST_PLACES];
            table = new long[MOST_PLACES][MOST_PLACES];
        }

        long[] noGrains() {
            return zeros;
        }

        long[] fullest(Yard yard) {
            for (int place = 1; place < yard.places; place++) {
                full[place] = yard.degrees[place] - 1;
            }
            return full;
        }

        /** Of the kind of no grains, and nowhere less than the fullest: what it is added to comes again when settled. */
        private void makeLift(Yard yard) {
            fullest(yard);
            for (int place = 1; place < yard.places; place++) {
                lift[place] = 2L * full[place];
            }
            yard.calm(lift, falls);
            for (int place = 1; place < yard.places; place++) {
                lift[place] = 2L * full[place] - lift[place];
            }
        }

        /** Grains that undo the kind of a row; none are below 0, for the lift is never less than a row that is still. */
        long[] against(Yard yard, long[] grains) {
            System.arraycopy(grains, 0, source, 0, MOST_PLACES);
            yard.calm(source, falls);
            makeLift(yard);
            for (int place = 1; place < yard.places; place++) {
                source[place] = lift[place] - source[place];
            }
            return source;
        }

        long[] comingAgain(Yard yard, long[] grains) {
            makeLift(yard);
            for (int place = 1; place < yard.places; place++) {
                lift[place] += grains[place];
            }
            yard.calm(lift, falls);
            return lift;
        }

        long howMany(Yard yard) {
            return yard.isJoined() ? solve(yard, zeros) : 0L;
        }

        /** How often one row less another must be taken to be of the kind of no grains. */
        long timesToNothing(Yard yard, long[] grains, long[] less) {
            // Both are settled first: small numbers keep the table's products far below 64 bits.
            System.arraycopy(grains, 0, source, 0, MOST_PLACES);
            yard.calm(source, falls);
            System.arraycopy(less, 0, lift, 0, MOST_PLACES);
            yard.calm(lift, falls);
            for (int place = 1; place < yard.places; place++) {
                source[place] -= lift[place];
            }
            long all = solve(yard, source);
            long common = all;
            for (int place = 1; place < yard.places; place++) {
                common = commonDivisor(common, table[place][0]);
            }
            return common <= 0L ? 1L : all / common;
        }

        /**
         * Which fellings make up a row of grains: answers the trees, and leaves in the table's column 0 the fellings
         * of each place, times the trees. Each division is without rest (Bareiss), and in a whole yard no pivot is 0.
         */
        private long solve(Yard yard, long[] grains) {
            fillTable(yard, grains);
            long last = 1L;
            for (int pivot = 1; pivot < yard.places; pivot++) {
                for (int row = 1; row < yard.places; row++) {
                    if (row != pivot && last != 0L) {
                        clearInRow(yard, row, pivot, last);
                    }
                }
                last = table[pivot][pivot];
            }
            return last;
        }

        private void fillTable(Yard yard, long[] grains) {
            for (int row = 1; row < yard.places; row++) {
                table[row][0] = grains[row];
                for (int column = 1; column < yard.places; column++) {
                    table[row][column] = row == column ? yard.degrees[row] : -yard.paths[row][column];
                }
            }
        }

        private void clearInRow(Yard yard, int row, int pivot, long last) {
            if (last == 0L) {
                return;
            }
            long head = table[pivot][pivot];
            long own = table[row][pivot];
            for (int column = 0; column < yard.places; column++) {
                table[row][column] = (head * table[row][column] - own * table[pivot][column]) / last;
            }
        }
    }

    /** The parts of a yard's kinds, told by clearing the table of its paths, counted round by its trees. */
    private static final class Parts {
        // Each two steps halve the corner, that is below the trees and so below 30 bits.
        static final int MOST_STEPS = 1000;

        final long[][] table;
        final long[] rounds;
        int size;
        int ones;
        long trees;

        Parts() {
            table = new long[MOST_PLACES][MOST_PLACES];
            rounds = new long[MOST_PLACES];
            size = 0;
            ones = 0;
            trees = 1L;
        }

        /** Answers how many parts there are, of a whole yard. */
        int split(Yard yard, long treesThere) {
            size = yard.places - 1;
            trees = Math.max(1L, treesThere);
            fillTable(yard);
            for (int corner = 0; corner < size; corner++) {
                clearCross(corner);
                rounds[corner] = commonDivisor(table[corner][corner], trees);
            }
            makeChain();
            ones = 0;
            for (int i = 0; i < size; i++) {
                ones += rounds[i] == 1L ? 1 : 0;
            }
            return size - ones;
        }

        /** Those that are 1 lie ahead of the parts. */
        long told(int i) {
            int at = ones + i;
            return at >= 0 && at < size ? rounds[at] : 1L;
        }

        private void fillTable(Yard yard) {
            for (int row = 0; row < size; row++) {
                for (int column = 0; column < size; column++) {
                    long entry = row == column ? yard.degrees[row + 1] : -yard.paths[row + 1][column + 1];
                    table[row][column] = counted(entry);
                }
            }
        }

        // So often as there are trees, each grain is of the kind of no grains: more need not be counted.
        private long counted(long number) {
            return trees <= 0L ? 0L : Math.floorMod(number, trees);
        }

        private void clearCross(int corner) {
            for (int step = 0; step < MOST_STEPS && !isClear(corner); step++) {
                bringLeast(corner);
                long least = table[corner][corner];
                if (least > 0L) {
                    lowerRows(corner, least);
                    lowerColumns(corner, least);
                }
            }
        }

        private boolean isClear(int corner) {
            for (int i = corner + 1; i < size; i++) {
                if (table[i][corner] != 0L || table[corner][i] != 0L) {
                    return false;
                }
            }
            return true;
        }

        /** Swaps rows or columns so that the least number (but 0) of the corner's row and column comes to it. */
        private void bringLeast(int corner) {
            int row = corner;
            int column = corner;
            for (int i = corner + 1; i < size; i++) {
                if (isLess(table[i][corner], table[row][column])) {
                    row = i;
                    column = corner;
                }
                if (isLess(table[corner][i], table[row][column])) {
                    row = corner;
                    column = i;
                }
            }
            for (int i = corner; i < size; i++) {
                long kept = table[corner][i];
                table[corner][i] = table[row][i];
                table[row][i] = kept;
            }
            for (int i = corner; i < size; i++) {
                long kept = table[i][corner];
                table[i][corner] = table[i][column];
                table[i][column] = kept;
            }
        }

        private static boolean isLess(long number, long least) {
            return number != 0L && (least == 0L || number < least);
        }

        private void lowerRows(int corner, long least) {
            for (int row = corner + 1; row < size && least > 0L; row++) {
                long times = table[row][corner] / least;
                for (int i = corner; i < size; i++) {
                    table[row][i] = counted(table[row][i] - times * table[corner][i]);
                }
            }
        }

        private void lowerColumns(int corner, long least) {
            for (int column = corner + 1; column < size && least > 0L; column++) {
                long times = table[corner][column] / least;
                for (int i = corner; i < size; i++) {
                    table[i][column] = counted(table[i][column] - times * table[i][corner]);
                }
            }
        }

        /** Rounds of a and b are, together, rounds of their common divisor and their common multiple. */
        private void makeChain() {
            for (int i = 0; i < size; i++) {
                for (int j = i + 1; j < size; j++) {
                    long common = commonDivisor(rounds[i], rounds[j]);
                    if (common > 0L) {
                        rounds[j] = rounds[i] / common * rounds[j];
                        rounds[i] = common;
                    }
                }
            }
        }
    }
}
