import java.lang.management.ManagementFactory;

/** The borders of what each promise says: refused calls change nothing, nor do questions; and each promise's own edges. */
public final class BoundaryPromisesTest extends YardChecks {
    private static final int LEAST = Integer.MIN_VALUE;
    private static final int MOST = Integer.MAX_VALUE;

    private interface Ask {
        Object answer(GrainYard x);
    }

    public static void main(String[] args) {
        BoundaryPromisesTest test = new BoundaryPromisesTest();
        test.noSuchYard();
        test.noSuchHeap();
        test.noSuchPlace();
        test.theHoleIsNoPlaceFor();
        test.placesOfItsOwnYard();
        test.noSuchWhat();
        test.noSuchPart();
        test.wrongArguments();
        test.wrongStates();
        test.refusedWithNone();
        test.refusedWithFalse();
        test.noSuchComesFirst();
        test.nothingThereYet();
        test.questionsChangeNothing();
        test.pathToldBothWays();
        test.setTellsHowManyThereWere();
        test.toppleOnce();
        test.settleOfAStillOne();
        test.topplingsOfAllPlaces();
        test.dropUpToTheDegree();
        test.toppledLatest();
        test.addWithItself();
        test.addTakesNoLostOnes();
        test.becomeKeepsLostAndToppled();
        test.alikeOfOneItself();
        test.growBitsOfEachPlace();
        test.growHigherBits();
        test.growPathsUpToTheLast();
        test.growPlacesUpToTheLast();
        test.growRounds();
        test.countUpToTheMost();
        test.callNumber512();
        test.dearestCalls();
        test.checks.end("BoundaryPromisesTest");
    }

    /**
     * Yard 0 is a ring of 4 with the heaps 0 (not still), 1 (still, but doesn't come again) and 2 (comes again), all of
     * which lost grains; yard 1 the same with heap 3; yard 2 is whole without a heap; yard 3 isn't whole.
     */
    private static GrainYard peopled() {
        GrainYard x = ring4();
        lay(x, x.yard(4), 0, 1, 2, 1, 2, 1, 2, 3, 2, 3, 0, 1);
        lay(x, x.yard(3), 0, 1, 3, 1, 2, 2);
        lay(x, x.yard(3), 1, 2, 1);
        for (int i = 0; i < 4; i++) {
            x.heap(i / 3);
            put(x, i, 5, 6, 7);
            x.settle(i);
        }
        put(x, 0, 2, 7, 2);
        put(x, 1, 1, 0, 1);
        put(x, 2, 1, 2, 1);
        return x;
    }

    /** All that peopled() and one more call can have made. */
    private static String state(GrainYard x) {
        StringBuilder text = new StringBuilder();
        text.append(x.count(0)).append(" yards, ").append(x.count(1)).append(" heaps;");
        for (int yard = 0; yard < x.count(0); yard++) {
            int at = yard;
            text.append(" yard ").append(x.whole(yard)).append(' ').append(x.trees(yard));
            text.append(' ').append(Checks.told(() -> x.part(at, 0)));
            for (int place = 0; place < 8; place++) {
                int end = place;
                text.append(' ').append(Checks.told(() -> x.degree(at, end)));
            }
        }
        for (int heap = 0; heap < x.count(1); heap++) {
            text.append(" heap");
            for (int place = 0; place < 4; place++) {
                text.append(' ').append(x.grains(heap, place)).append('/').append(x.toppled(heap, place));
            }
        }
        return text.toString();
    }

    /** The call answers so, and leaves all as it was. */
    private void changesNothing(String name, Object want, Ask call) {
        GrainYard x = peopled();
        String before = state(x);
        checks.due(name, want, () -> call.answer(x));
        checks.due("the state after " + name, before, () -> state(x));
    }

    private void noSuch(String name, Ask call) {
        changesNothing(name, "throws " + Checks.NO_SUCH, call);
    }

    private static Object become(GrainYard x, int heap, int what) {
        x.become(heap, what);
        return "became";
    }

    private void noSuchYard() {
        checks.chapter("NoSuchElementException: no such YARD");
        for (int n : new int[] {-1, -2, 4, 5, 6, 20, LEAST, MOST}) {
            noSuch("path(" + n + ", 0, 1, 1)", x -> x.path(n, 0, 1, 1));
            noSuch("degree(" + n + ", 0)", x -> x.degree(n, 0));
            noSuch("whole(" + n + ")", x -> x.whole(n));
            noSuch("trees(" + n + ")", x -> x.trees(n));
            noSuch("part(" + n + ", -1)", x -> x.part(n, -1));
            noSuch("part(" + n + ", 0)", x -> x.part(n, 0));
            noSuch("heap(" + n + ")", x -> x.heap(n));
        }
    }

    private void noSuchHeap() {
        checks.chapter("NoSuchElementException: no such HEAP");
        for (int n : new int[] {-1, -2, 4, 5, 19, 20, LEAST, MOST}) {
            noSuch("set(" + n + ", 1, 1)", x -> x.set(n, 1, 1));
            noSuch("grains(" + n + ", 0)", x -> x.grains(n, 0));
            noSuch("topple(" + n + ", 1)", x -> x.topple(n, 1));
            noSuch("settle(" + n + ")", x -> x.settle(n));
            noSuch("drop(" + n + ", 1)", x -> x.drop(n, 1));
            noSuch("toppled(" + n + ", 0)", x -> x.toppled(n, 0));
            noSuch("is(" + n + ", 0)", x -> x.is(n, 0));
            noSuch("burns(" + n + ", 0)", x -> x.burns(n, 0));
            noSuch("add(" + n + ", 0)", x -> x.add(n, 0));
            noSuch("add(0, " + n + ")", x -> x.add(0, n));
            noSuch("add(" + n + ", " + n + ")", x -> x.add(n, n));
            noSuch("become(" + n + ", 0)", x -> become(x, n, 0));
            noSuch("alike(" + n + ", 0)", x -> x.alike(n, 0));
            noSuch("alike(0, " + n + ")", x -> x.alike(0, n));
            noSuch("alike(" + n + ", " + n + ")", x -> x.alike(n, n));
            noSuch("order(" + n + ")", x -> x.order(n));
            noSuch("tree(" + n + ", 1, 0)", x -> x.tree(n, 1, 0));
            noSuch("grow(" + n + ", 0)", x -> x.grow(n, 0L));
        }
    }

    private void noSuchPlace() {
        checks.chapter("no such YARD, PLACES (as everywhere)");
        for (int n : new int[] {-1, -2, 4, 5, 7, 8, LEAST, MOST}) {
            noSuch("path(0, " + n + ", 1, 1)", x -> x.path(0, n, 1, 1));
            noSuch("path(0, 1, " + n + ", 1)", x -> x.path(0, 1, n, 1));
            noSuch("path(2, " + n + ", 1, 1)", x -> x.path(2, n, 1, 1));
            noSuch("path(2, 1, " + n + ", 1)", x -> x.path(2, 1, n, 1));
            noSuch("degree(0, " + n + ")", x -> x.degree(0, n));
            noSuch("set(0, " + n + ", 1)", x -> x.set(0, n, 1));
            noSuch("grains(0, " + n + ")", x -> x.grains(0, n));
            noSuch("topple(0, " + n + ")", x -> x.topple(0, n));
            noSuch("drop(0, " + n + ")", x -> x.drop(0, n));
            noSuch("toppled(0, " + n + ")", x -> x.toppled(0, n));
            noSuch("burns(0, " + n + ")", x -> x.burns(0, n));
            noSuch("burns(2, " + n + ")", x -> x.burns(2, n));
            noSuch("tree(2, " + n + ", 0)", x -> x.tree(2, n, 0));
        }
    }

    private void theHoleIsNoPlaceFor() {
        checks.chapter("PLACE (1 on)");
        for (int heap = 0; heap < 3; heap++) {
            int h = heap;
            noSuch("set(" + h + ", 0, 1)", x -> x.set(h, 0, 1));
            noSuch("topple(" + h + ", 0)", x -> x.topple(h, 0));
            noSuch("drop(" + h + ", 0)", x -> x.drop(h, 0));
            noSuch("tree(" + h + ", 0, 0)", x -> x.tree(h, 0, 0));
            noSuch("tree(" + h + ", 0, 1)", x -> x.tree(h, 0, 1));
        }
        changesNothing("degree(0, 0)", 3, x -> x.degree(0, 0));
        changesNothing("toppled(0, 0)", 0, x -> x.toppled(0, 0));
        changesNothing("burns(0, 0)", -1, x -> x.burns(0, 0));
        changesNothing("burns(1, 0)", 0, x -> x.burns(1, 0));
    }

    private void placesOfItsOwnYard() {
        checks.chapter("no such .. PLACES: of each yard as many as it was made with");
        for (int n = 2; n <= 8; n++) {
            int beyond = n;
            GrainYard x = everyTwo(8, 1);
            lay(x, x.yard(n), 0, 1, 1);
            for (int place = 2; place < n; place++) {
                x.path(1, 0, place, 1);
            }
            x.heap(0);
            x.heap(1);
            checks.due("set(1, " + (n - 1) + ", 5)", 0, () -> x.set(1, beyond - 1, 5));
            checks.due("drop(1, " + (n - 1) + ")", 6, () -> x.drop(1, beyond - 1));
            checks.due("tree(1, " + (n - 1) + ", 0)", 0, () -> x.tree(1, beyond - 1, 0));
            checks.dueThrow("degree(1, " + n + ")", Checks.NO_SUCH, () -> x.degree(1, beyond));
            checks.dueThrow("path(1, 0, " + n + ", 1)", Checks.NO_SUCH, () -> x.path(1, 0, beyond, 1));
            checks.dueThrow("set(1, " + n + ", 5)", Checks.NO_SUCH, () -> x.set(1, beyond, 5));
            checks.dueThrow("grains(1, " + n + ")", Checks.NO_SUCH, () -> x.grains(1, beyond));
            checks.dueThrow("topple(1, " + n + ")", Checks.NO_SUCH, () -> x.topple(1, beyond));
            checks.dueThrow("drop(1, " + n + ")", Checks.NO_SUCH, () -> x.drop(1, beyond));
            checks.dueThrow("toppled(1, " + n + ")", Checks.NO_SUCH, () -> x.toppled(1, beyond));
            checks.dueThrow("burns(1, " + n + ")", Checks.NO_SUCH, () -> x.burns(1, beyond));
            checks.dueThrow("tree(1, " + n + ", 0)", Checks.NO_SUCH, () -> x.tree(1, beyond, 0));
        }
    }

    private void noSuchWhat() {
        checks.chapter("NoSuchElementException: another what");
        for (int n : new int[] {-1, -2, LEAST, MOST, 5, 6, 256}) {
            noSuch("become(0, " + n + ")", x -> become(x, 0, n));
        }
        for (int n : new int[] {-1, -2, LEAST, MOST, 2, 3, 256}) {
            noSuch("is(2, " + n + ")", x -> x.is(2, n));
            noSuch("tree(2, 1, " + n + ")", x -> x.tree(2, 1, n));
            noSuch("count(" + n + ")", x -> x.count(n));
        }
    }

    private void noSuchPart() {
        checks.chapter("i NONE: how many. .. NoSuchElementException: also no such PART");
        changesNothing("part(0, -1)", 1, x -> x.part(0, -1));
        changesNothing("part(0, 0)", 12, x -> x.part(0, 0));
        for (int i : new int[] {-2, -3, 1, 2, 3, 7, 8, LEAST, MOST}) {
            noSuch("part(0, " + i + ")", x -> x.part(0, i));
        }
    }

    private void wrongArguments() {
        checks.chapter("IllegalArgumentException");
        String thrown = "throws " + Checks.BAD_ARGUMENT;
        for (int n : new int[] {-1, -2, 100001, 100002, LEAST, MOST}) {
            changesNothing("set(0, 1, " + n + ")", thrown, x -> x.set(0, 1, n));
            changesNothing("set(2, 3, " + n + ")", thrown, x -> x.set(2, 3, n));
        }
        for (int heap = 0; heap < 3; heap++) {
            int h = heap;
            changesNothing("add(" + h + ", 3) of two yards", thrown, x -> x.add(h, 3));
            changesNothing("add(3, " + h + ") of two yards", thrown, x -> x.add(3, h));
            changesNothing("alike(" + h + ", 3) of two yards", thrown, x -> x.alike(h, 3));
            changesNothing("alike(3, " + h + ") of two yards", thrown, x -> x.alike(3, h));
        }
    }

    private void wrongStates() {
        checks.chapter("IllegalStateException");
        String thrown = "throws " + Checks.BAD_STATE;
        changesNothing("part(3, -1), not whole", thrown, x -> x.part(3, -1));
        changesNothing("part(3, 0), not whole", thrown, x -> x.part(3, 0));
        for (int place = 1; place < 4; place++) {
            int at = place;
            for (int what = 0; what < 2; what++) {
                int which = what;
                changesNothing("tree(0, " + at + ", " + what + "), not still", thrown, x -> x.tree(0, at, which));
                changesNothing("tree(1, " + at + ", " + what + "), not again", thrown, x -> x.tree(1, at, which));
            }
        }
    }

    private void refusedWithNone() {
        checks.chapter("NONE, and nothing changes");
        for (int n : new int[] {1, 0, -1, 9, 10, LEAST, MOST}) {
            changesNothing("yard(" + n + ")", -1, x -> x.yard(n));
        }
        for (int n : new int[] {-1, -2, 4, 5, LEAST, MOST}) {
            changesNothing("path(2, 0, 1, " + n + ")", -1, x -> x.path(2, 0, 1, n));
            changesNothing("path(3, 2, 1, " + n + ")", -1, x -> x.path(3, 2, 1, n));
            changesNothing("path(0, 0, 1, " + n + ") with a heap", -1, x -> x.path(0, 0, 1, n));
        }
        for (int n = 0; n <= 3; n++) {
            int paths = n;
            changesNothing("path(0, 0, 1, " + n + ") with a heap", -1, x -> x.path(0, 0, 1, paths));
            changesNothing("path(0, 1, 1, " + n + ") with a heap", -1, x -> x.path(0, 1, 1, paths));
            changesNothing("path(2, 0, 0, " + n + ") of one", -1, x -> x.path(2, 0, 0, paths));
            changesNothing("path(2, 2, 2, " + n + ") of one", -1, x -> x.path(2, 2, 2, paths));
        }
        changesNothing("heap(3), not whole", -1, x -> x.heap(3));
    }

    private void refusedWithFalse() {
        checks.chapter("False: it may not. False, and nothing changes");
        changesNothing("topple(0, 1), one too few", false, x -> x.topple(0, 1));
        changesNothing("topple(0, 3), one too few", false, x -> x.topple(0, 3));
        changesNothing("topple(1, 2) of none", false, x -> x.topple(1, 2));
        for (int heap = 0; heap < 3; heap++) {
            int h = heap;
            changesNothing("grow to nowhere, heap " + h, false, x -> x.grow(h, code(0, 0, 0, 0, 0, 0)));
            changesNothing("grow by one path too many, heap " + h, false, x -> x.grow(h, code(0, 2, 1, 0, 0, 0)));
            changesNothing("grow to itself, heap " + h, false, x -> x.grow(h, code(0, 0, 2, 0, 0, 0)));
            changesNothing("grow in a circle, heap " + h, false, x -> x.grow(h, code(0, 0, 3, 0, 2, 0)));
            changesNothing("grow beyond the places, heap " + h, false, x -> x.grow(h, code(0, 0, 4, 0, 0, 0)));
            changesNothing("grow of all bits, heap " + h, false, x -> x.grow(h, -1L));
            changesNothing("grow of the highest bit, heap " + h, false, x -> x.grow(h, Long.MIN_VALUE));
        }
    }

    private void noSuchComesFirst() {
        checks.chapter("NoSuchElementException ahead of all else");
        noSuch("path(0, 4, 4, 9) of one that isn't there, with a heap", x -> x.path(0, 4, 4, 9));
        noSuch("path(2, 0, 3, -1)", x -> x.path(2, 0, 3, -1));
        noSuch("path(2, -1, -1, 0)", x -> x.path(2, -1, -1, 0));
        noSuch("path(9, 0, 0, 9)", x -> x.path(9, 0, 0, 9));
        noSuch("set(0, 0, -1)", x -> x.set(0, 0, -1));
        noSuch("set(0, 4, 100001)", x -> x.set(0, 4, 100001));
        noSuch("set(9, 1, -1)", x -> x.set(9, 1, -1));
        noSuch("tree(0, 0, 0), not still", x -> x.tree(0, 0, 0));
        noSuch("tree(0, 4, 0), not still", x -> x.tree(0, 4, 0));
        noSuch("tree(0, 1, 2), not still", x -> x.tree(0, 1, 2));
        noSuch("tree(1, 1, -1), not again", x -> x.tree(1, 1, -1));
        noSuch("add(3, 9)", x -> x.add(3, 9));
        noSuch("alike(9, 3)", x -> x.alike(9, 3));
        noSuch("grow(9, -1)", x -> x.grow(9, -1L));
        GrainYard full = made(2, 0, 1, 1);
        for (int i = 0; i < 20; i++) {
            full.heap(0);
        }
        checks.dueThrow("heap(1) with 20 heaps", Checks.NO_SUCH, () -> full.heap(1));
        checks.dueThrow("heap(-1) with 20 heaps", Checks.NO_SUCH, () -> full.heap(-1));
    }

    private void nothingThereYet() {
        checks.chapter("GrainYard(): No YARDS");
        GrainYard x = new GrainYard();
        checks.due("count(0)", 0, () -> x.count(0));
        checks.due("count(1)", 0, () -> x.count(1));
        for (int n : new int[] {0, -1, 1, LEAST, MOST}) {
            checks.dueThrow("path of yard " + n, Checks.NO_SUCH, () -> x.path(n, 0, 1, 1));
            checks.dueThrow("degree of yard " + n, Checks.NO_SUCH, () -> x.degree(n, 0));
            checks.dueThrow("whole of yard " + n, Checks.NO_SUCH, () -> x.whole(n));
            checks.dueThrow("trees of yard " + n, Checks.NO_SUCH, () -> x.trees(n));
            checks.dueThrow("part of yard " + n, Checks.NO_SUCH, () -> x.part(n, -1));
            checks.dueThrow("heap of yard " + n, Checks.NO_SUCH, () -> x.heap(n));
            checks.dueThrow("set of heap " + n, Checks.NO_SUCH, () -> x.set(n, 1, 0));
            checks.dueThrow("grains of heap " + n, Checks.NO_SUCH, () -> x.grains(n, 0));
            checks.dueThrow("topple of heap " + n, Checks.NO_SUCH, () -> x.topple(n, 1));
            checks.dueThrow("settle of heap " + n, Checks.NO_SUCH, () -> x.settle(n));
            checks.dueThrow("drop of heap " + n, Checks.NO_SUCH, () -> x.drop(n, 1));
            checks.dueThrow("toppled of heap " + n, Checks.NO_SUCH, () -> x.toppled(n, 0));
            checks.dueThrow("is of heap " + n, Checks.NO_SUCH, () -> x.is(n, 0));
            checks.dueThrow("burns of heap " + n, Checks.NO_SUCH, () -> x.burns(n, 0));
            checks.dueThrow("add of heap " + n, Checks.NO_SUCH, () -> x.add(n, n));
            checks.dueThrow("become of heap " + n, Checks.NO_SUCH, () -> become(x, n, 0));
            checks.dueThrow("alike of heap " + n, Checks.NO_SUCH, () -> x.alike(n, n));
            checks.dueThrow("order of heap " + n, Checks.NO_SUCH, () -> x.order(n));
            checks.dueThrow("tree of heap " + n, Checks.NO_SUCH, () -> x.tree(n, 1, 0));
            checks.dueThrow("grow of heap " + n, Checks.NO_SUCH, () -> x.grow(n, 0L));
        }
        checks.due("count(0) after all", 0, () -> x.count(0));
        checks.due("count(1) after all", 0, () -> x.count(1));
        checks.due("yard(2) after all", 0, () -> x.yard(2));
    }

    private void questionsChangeNothing() {
        checks.chapter("questions change nothing");
        changesNothing("whole(3)", false, x -> x.whole(3));
        changesNothing("trees(0)", 12, x -> x.trees(0));
        changesNothing("trees(3)", 0, x -> x.trees(3));
        changesNothing("trees(2)", 6, x -> x.trees(2));
        changesNothing("part(2, 0)", 6, x -> x.part(2, 0));
        changesNothing("is(0, 0)", false, x -> x.is(0, 0));
        changesNothing("is(0, 1)", false, x -> x.is(0, 1));
        changesNothing("is(1, 0)", true, x -> x.is(1, 0));
        changesNothing("is(1, 1)", false, x -> x.is(1, 1));
        changesNothing("is(2, 1)", true, x -> x.is(2, 1));
        changesNothing("burns(0, 1)", -1, x -> x.burns(0, 1));
        changesNothing("burns(1, 2)", -1, x -> x.burns(1, 2));
        changesNothing("burns(2, 3)", 3, x -> x.burns(2, 3));
        changesNothing("alike(0, 0)", true, x -> x.alike(0, 0));
        changesNothing("alike(1, 2)", false, x -> x.alike(1, 2));
        changesNothing("order(0)", 12, x -> x.order(0));
        changesNothing("order(1)", 12, x -> x.order(1));
        changesNothing("tree(2, 3, 0)", 2, x -> x.tree(2, 3, 0));
        changesNothing("tree(2, 3, 1)", 1, x -> x.tree(2, 3, 1));
        // Both questions use rows of their own: neither is told by what the other left there.
        changesNothing("order(1) after others", 12, x -> {
            x.part(2, -1);
            x.alike(2, 0);
            x.is(2, 1);
            x.trees(2);
            return x.order(1);
        });
        changesNothing("tree(2, 3, 0) after others", 2, x -> {
            x.burns(1, 0);
            x.grow(0, 0L);
            return x.tree(2, 3, 0);
        });
    }

    private void pathToldBothWays() {
        checks.chapter("PATHS between two PLACES are n: how many there were");
        GrainYard x = made(2);
        int[] row = {0, 3, 3, 1, 2, 0, 0, 1};
        int before = 0;
        for (int i = 0; i < row.length; i++) {
            int n = row[i];
            int want = before;
            int a = i % 2;
            checks.due("path(0, " + a + ", " + (1 - a) + ", " + n + ")", want, () -> x.path(0, a, 1 - a, n));
            checks.due("degree(0, 0)", n, () -> x.degree(0, 0));
            checks.due("degree(0, 1)", n, () -> x.degree(0, 1));
            checks.due("trees(0)", n, () -> x.trees(0));
            checks.due("whole(0)", n > 0, () -> x.whole(0));
            before = n;
        }
    }

    private void setTellsHowManyThereWere() {
        checks.chapter("GRAINS at a PLACE are n: how many there were");
        GrainYard x = line8();
        x.heap(0);
        int[] row = {0, 100000, 100000, 0, 1, 99999, 0, 0};
        for (int place = 1; place < 8; place++) {
            int before = 0;
            int at = place;
            for (int n : row) {
                int want = before;
                checks.due("set(0, " + place + ", " + n + ")", want, () -> x.set(0, at, n));
                checks.due("grains(0, " + place + ")", n, () -> x.grains(0, at));
                before = n;
            }
        }
        checks.due("grains(0, 0)", 0, () -> x.grains(0, 0));
        checks.due("toppled(0, 1): setting doesn't settle", 0, () -> x.toppled(0, 1));
    }

    private void toppleOnce() {
        checks.chapter("A PLACE TOPPLES once: true");
        GrainYard x = made(2, 0, 1, 3);
        x.heap(0);
        x.set(0, 1, 100000);
        for (int i = 1; i <= 400; i++) {
            x.topple(0, 1);
        }
        checks.due("grains(0, 1) after 400", 98800, () -> x.grains(0, 1));
        checks.due("grains(0, 0) after 400", 1200, () -> x.grains(0, 0));
        checks.due("toppled(0, 1), for it wasn't settled", 0, () -> x.toppled(0, 1));
        checks.due("settle(0) of the rest", 32933, () -> x.settle(0));
        checks.due("toppled(0, 1)", 32933, () -> x.toppled(0, 1));
        checks.due("grains(0, 1)", 1, () -> x.grains(0, 1));
        checks.due("grains(0, 0)", 99999, () -> x.grains(0, 0));
        checks.due("topple(0, 1) of one grain", false, () -> x.topple(0, 1));
    }

    private void settleOfAStillOne() {
        checks.chapter("SETTLED: how many TOPPLINGS there were");
        GrainYard x = ring4();
        x.heap(0);
        put(x, 0, 3, 3, 3);
        x.settle(0);
        String row = row(x, 0, 4);
        long lost = x.grains(0, 0);
        checks.due("toppled(0, 1) of one that wasn't still", true, () -> x.toppled(0, 1) > 0);
        checks.due("settle(0) of a still one", 0, () -> x.settle(0));
        checks.due("row stays", row, () -> row(x, 0, 4));
        checks.due("grains(0, 0) stays", lost, () -> x.grains(0, 0));
        for (int place = 0; place < 4; place++) {
            int at = place;
            checks.due("toppled(0, " + place + ") of a still one", 0, () -> x.toppled(0, at));
        }
    }

    private static long allToppled(GrainYard x, int heap) {
        return x.toppled(heap, 1) + x.toppled(heap, 2) + x.toppled(heap, 3);
    }

    private void topplingsOfAllPlaces() {
        checks.chapter("how many TOPPLINGS there were: those of all PLACES");
        int[][] heaps = {{3, 0, 0}, {0, 3, 0}, {0, 0, 3}, {3, 3, 3}, {2, 2, 3}, {3, 2, 2}, {100000, 0, 100000}};
        for (int[] grains : heaps) {
            GrainYard x = ring4();
            x.heap(0);
            x.heap(0);
            put(x, 0, grains);
            long settled = x.settle(0);
            checks.due("those of settle together", settled, () -> allToppled(x, 0));
            put(x, 0, grains);
            long dropped = x.drop(0, 2);
            checks.due("those of drop together", dropped, () -> allToppled(x, 0));
            put(x, 1, grains);
            long added = x.add(0, 1);
            checks.due("those of add together", added, () -> allToppled(x, 0));
        }
        GrainYard x = ring4();
        x.heap(0);
        put(x, 0, 2, 2, 2);
        // One after the other: 3 2 2, 0 3 2, 1 0 4, 1 2 1.
        checks.due("drop(0, 1) on the fullest", 3, () -> x.drop(0, 1));
        checks.due("row", "1 2 1", () -> row(x, 0, 4));
    }

    private void dropUpToTheDegree() {
        checks.chapter("A GRAIN more at a PLACE (1 on), then SETTLED");
        for (int degree = 1; degree <= 3; degree++) {
            int enough = degree;
            GrainYard x = made(2, 0, 1, degree);
            x.heap(0);
            for (int i = 1; i <= 3 * degree; i++) {
                int at = i;
                checks.due("drop(0, 1), time " + i + " of " + degree, at % enough == 0 ? 1 : 0, () -> x.drop(0, 1));
                checks.due("grains(0, 1)", at % enough, () -> x.grains(0, 1));
                checks.due("toppled(0, 1)", at % enough == 0 ? 1 : 0, () -> x.toppled(0, 1));
            }
            checks.due("grains(0, 0)", 3 * enough, () -> x.grains(0, 0));
            x.set(0, 1, 100000);
            checks.due("drop(0, 1) on the most", 100001 / enough, () -> x.drop(0, 1));
            checks.due("grains(0, 1)", 100001 % enough, () -> x.grains(0, 1));
        }
    }

    private void toppledLatest() {
        checks.chapter("How often a PLACE TOPPLED when that HEAP was SETTLED latest (0 at first, and of PLACE 0)");
        GrainYard x = made(2, 0, 1, 1);
        x.heap(0);
        x.heap(0);
        checks.due("toppled(0, 1) at first", 0, () -> x.toppled(0, 1));
        int[] row = {5, 0, 100000, 1, 0};
        for (int n : row) {
            x.set(0, 1, n);
            x.settle(0);
            checks.due("toppled(0, 1) of " + n, n, () -> x.toppled(0, 1));
            checks.due("toppled(0, 0) of " + n, 0, () -> x.toppled(0, 0));
        }
        x.drop(0, 1);
        checks.due("toppled(0, 1) by drop", 1, () -> x.toppled(0, 1));
        x.set(1, 1, 7);
        x.add(0, 1);
        checks.due("toppled(0, 1) by add", 7, () -> x.toppled(0, 1));
        checks.due("toppled(1, 1) of the one added", 0, () -> x.toppled(1, 1));
        x.topple(1, 1);
        checks.due("toppled(1, 1) by topple", 0, () -> x.toppled(1, 1));
        x.set(0, 1, 9);
        checks.due("toppled(0, 1) after set", 7, () -> x.toppled(0, 1));
    }

    private void addWithItself() {
        checks.chapter("A HEAP becomes its SUM with another one (also with itself)");
        for (int n = 0; n <= 3; n++) {
            int grains = n;
            GrainYard x = made(2, 0, 1, 3);
            x.heap(0);
            x.set(0, 1, n);
            checks.due("add(0, 0) of " + n + " of 3", 2 * grains / 3, () -> x.add(0, 0));
            checks.due("grains(0, 1)", 2 * grains % 3, () -> x.grains(0, 1));
            checks.due("grains(0, 0)", 2 * grains / 3 * 3, () -> x.grains(0, 0));
        }
        GrainYard x = made(2, 0, 1, 1);
        x.heap(0);
        x.set(0, 1, 100000);
        checks.due("add(0, 0) of the most", 200000, () -> x.add(0, 0));
        checks.due("grains(0, 0)", 200000, () -> x.grains(0, 0));
        checks.due("add(0, 0) of none", 0, () -> x.add(0, 0));
        checks.due("toppled(0, 1)", 0, () -> x.toppled(0, 1));
    }

    private void addTakesNoLostOnes() {
        checks.chapter("A HEAP becomes its SUM with another one: GRAINS added");
        GrainYard x = made(2, 0, 1, 1);
        x.heap(0);
        x.heap(0);
        x.set(1, 1, 5);
        x.settle(1);
        x.set(1, 1, 3);
        checks.due("add(0, 1)", 3, () -> x.add(0, 1));
        checks.due("grains(0, 0)", 3, () -> x.grains(0, 0));
        checks.due("grains(1, 0) of the other stays", 5, () -> x.grains(1, 0));
        checks.due("grains(1, 1) of the other stays", 3, () -> x.grains(1, 1));
        checks.due("is(1, 0) of the other, that isn't settled", false, () -> x.is(1, 0));
    }

    private void becomeKeepsLostAndToppled() {
        checks.chapter("(LOST, and how often PLACES TOPPLED, stay)");
        String[] rows = {"0 0 0", "2 2 2", null, null, null};
        for (int what = 0; what < 5; what++) {
            for (int heap = 0; heap < 4; heap++) {
                int to = what;
                int at = heap;
                GrainYard x = peopled();
                String kept = kept(x, heap);
                GrainYard others = peopled();
                x.become(heap, what);
                checks.due("lost and toppled after become(" + heap + ", " + what + ")", kept, () -> kept(x, at));
                checks.due("become(" + heap + ", " + what + ") comes again", to > 0, () -> x.is(at, 1));
                if (rows[what] != null) {
                    checks.due("row after become(" + heap + ", " + what + ")", rows[what], () -> row(x, at, 4));
                }
                for (int i = 1; i < 4; i++) {
                    int other = (heap + i) % 4;
                    checks.due("row of heap " + other, row(others, other, 4), () -> row(x, other, 4));
                }
                x.grow(heap, code(0, 0, 1, 0, 2, 1));
                checks.due("row after grow", "1 2 1", () -> row(x, at, 4));
                checks.due("lost and toppled after grow", kept, () -> kept(x, at));
            }
        }
    }

    private static String kept(GrainYard x, int heap) {
        return x.grains(heap, 0) + " " + x.toppled(heap, 0) + " " + x.toppled(heap, 1) + " " + x.toppled(heap, 2) + " "
            + x.toppled(heap, 3);
    }

    private void alikeOfOneItself() {
        checks.chapter("Whether two HEAPS are OF ONE KIND");
        for (int heap = 0; heap < 4; heap++) {
            int at = heap;
            GrainYard x = peopled();
            checks.due("alike(" + heap + ", " + heap + ")", true, () -> x.alike(at, at));
            int same = x.heap(heap / 3);
            x.add(same, heap);
            checks.due("alike of it and it settled", true, () -> x.alike(at, same));
            x.become(same, 4);
            checks.due("alike of it settled and it again", true, () -> x.alike(same, at));
        }
    }

    /** A star: each of the 8 places has so many paths to the hole. */
    private static GrainYard star(int paths) {
        GrainYard x = made(8);
        for (int place = 1; place < 8; place++) {
            x.path(0, 0, place, paths);
        }
        x.heap(0);
        return x;
    }

    private void growBitsOfEachPlace() {
        checks.chapter("of each PLACE from 1 on 5 bits, that of PLACE 1 lowest: 3 bits for the PLACE, 2 higher ones for the PATH");
        GrainYard x = star(3);
        for (int place = 1; place < 8; place++) {
            int at = place;
            long second = 1L << 5 * (place - 1) + 3;
            long third = 2L << 5 * (place - 1) + 3;
            checks.due("grow with the second path of " + place, true, () -> x.grow(0, second));
            checks.due("row", one(at, 1), () -> row(x, 0, 8));
            checks.due("grow with the third path of " + place, true, () -> x.grow(0, third));
            checks.due("row", one(at, 2), () -> row(x, 0, 8));
            checks.due("grow with no such path of " + place, false, () -> x.grow(0, second | third));
            checks.due("row stays", one(at, 2), () -> row(x, 0, 8));
        }
        // A place that leads to each other place, of which the last are told by bits above an int's.
        for (int place = 1; place < 8; place++) {
            for (int to = 1; to < 8; to++) {
                GrainYard y = everyTwo(8, 3);
                y.heap(0);
                int at = place;
                int target = to;
                long tree = ((long) to | 2L << 3) << 5 * (place - 1);
                checks.due("grow with " + place + " to " + to, at != target, () -> y.grow(0, tree));
                if (place != to) {
                    checks.due("tree of " + place, target + " 2", () -> y.tree(0, at, 0) + " " + y.tree(0, at, 1));
                    checks.due("burns of " + place, 2, () -> y.burns(0, at));
                }
            }
        }
    }

    private static String one(int place, int grains) {
        StringBuilder text = new StringBuilder();
        for (int at = 1; at < 8; at++) {
            text.append(at == place ? grains : 0).append(' ');
        }
        return text.toString().trim();
    }

    private void growHigherBits() {
        checks.chapter("(higher bits aren't asked)");
        for (int n = 2; n <= 8; n++) {
            int places = n;
            GrainYard x = everyTwo(n, 2);
            x.heap(0);
            for (int bit = 5 * (n - 1); bit < 64; bit++) {
                int high = bit;
                x.become(0, 0);
                checks.due("grow of bit " + bit + " of " + n, true, () -> x.grow(0, 1L << high));
                checks.due("tree by it", "0 0", () -> x.tree(0, places - 1, 0) + " " + x.tree(0, places - 1, 1));
            }
            checks.due("grow of all higher bits of " + n, true, () -> x.grow(0, -1L << 5 * (places - 1)));
            checks.due("grow of the highest one asked of " + n, false, () -> x.grow(0, 2L << 5 * (places - 1) - 2));
        }
    }

    private void growPathsUpToTheLast() {
        checks.chapter("False, and nothing changes: it is no TREE (one of the PATHS)");
        for (int n = 1; n <= 3; n++) {
            GrainYard x = made(2, 0, 1, n);
            x.heap(0);
            for (int path = 0; path < 4; path++) {
                int which = path;
                boolean there = path < n;
                long before = x.grains(0, 1);
                checks.due("grow by path " + path + " of " + n, there, () -> x.grow(0, (long) which << 3));
                checks.due("grains(0, 1)", there ? which : before, () -> x.grains(0, 1));
            }
        }
    }

    private void growPlacesUpToTheLast() {
        checks.chapter("False, and nothing changes: it is no TREE (another PLACE)");
        for (int n = 2; n <= 8; n++) {
            GrainYard x = everyTwo(n, 1);
            x.heap(0);
            String before = row(x, 0, n);
            for (int to = 1; to < 8; to++) {
                int target = to;
                int places = n;
                x.become(0, 0);
                boolean there = to < n - 1;
                long tree = (long) to << 5 * (n - 2);
                checks.due("grow with " + (n - 1) + " to " + to + " of " + n, there, () -> x.grow(0, tree));
                if (there) {
                    checks.due("tree(0, " + (n - 1) + ", 0)", target, () -> x.tree(0, places - 1, 0));
                } else {
                    checks.due("row stays", before, () -> row(x, 0, places));
                }
            }
        }
    }

    private void growRounds() {
        checks.chapter("such that by these one comes from each to THE HOLE");
        // A circle of k places, the others led to it or to the hole: no tree; broken at its end, one.
        for (int k = 2; k < 8; k++) {
            GrainYard x = everyTwo(8, 1);
            x.heap(0);
            long chain = 0;
            for (int place = 2; place <= k; place++) {
                chain |= (long) (place - 1) << 5 * (place - 1);
            }
            long tree = chain;
            long circle = chain | k;
            int last = k;
            checks.due("grow in a circle of " + k, false, () -> x.grow(0, circle));
            checks.due("row stays", "0 0 0 0 0 0 0", () -> row(x, 0, 8));
            checks.due("grow in a chain of " + k, true, () -> x.grow(0, tree));
            checks.due("burns of the chain's last", last, () -> x.burns(0, last));
            checks.due("tree of the chain's last", last - 1, () -> x.tree(0, last, 0));
        }
    }

    private void countUpToTheMost() {
        checks.chapter("0 YARDS, 1 HEAPS");
        GrainYard x = new GrainYard();
        for (int i = 1; i <= 8; i++) {
            int yards = Math.min(6, i);
            x.yard(2);
            x.path(yards - 1, 0, 1, 1);
            checks.due("count(0) after " + i, yards, () -> x.count(0));
            checks.due("count(1) after " + i, 0, () -> x.count(1));
        }
        for (int i = 1; i <= 22; i++) {
            int heaps = Math.min(20, i);
            x.heap(i % 6);
            checks.due("count(1) after " + i, heaps, () -> x.count(1));
            checks.due("count(0) after " + i, 6, () -> x.count(0));
        }
        for (int what : new int[] {-1, 2, LEAST, MOST}) {
            checks.dueThrow("count(" + what + ")", Checks.NO_SUCH, () -> x.count(what));
        }
    }

    private void callNumber512() {
        checks.chapter("An object is used for at most 512 calls after it has been made");
        GrainYard x = new GrainYard();
        x.yard(2);
        x.path(0, 0, 1, 1);
        x.heap(0);
        for (int call = 4; call <= 511; call++) {
            long times = x.drop(0, 1);
            checks.due("call " + call, 1, () -> times);
        }
        checks.due("call 512", 508, () -> x.grains(0, 0));
    }

    /** All yards and heaps there may be, and of each kind of call the dearest: they end, are right, and take no room. */
    private void dearestCalls() {
        checks.chapter("all calls of one run live in one room");
        GrainYard warm = new GrainYard();
        laySlowYards(warm);
        spend(warm, 8);
        long start = roomTaken();
        GrainYard x = new GrainYard();
        laySlowYards(x);
        long all = spend(x, 41);
        long room = roomTaken() - start;
        checks.due("all grains that were added, less those that lie there", 40L * 700000L, () -> all);
        checks.due("bytes of 512 calls, below 64 KB: " + room, true, () -> room < 65536L);
    }

    /** A clique of 6 by 3 paths, and from it one path to a place that has one to the hole; 6 x (1 + 17) + 20 calls. */
    private static void laySlowYards(GrainYard x) {
        for (int yard = 0; yard < 6; yard++) {
            x.yard(8);
            x.path(yard, 0, 1, 1);
            x.path(yard, 1, 2, 1);
            for (int a = 2; a < 8; a++) {
                for (int b = a + 1; b < 8; b++) {
                    x.path(yard, a, b, 3);
                }
            }
        }
        for (int heap = 0; heap < 20; heap++) {
            x.heap(heap % 6);
        }
        for (int place = 1; place < 8; place++) {
            x.set(0, place, 100000);
        }
    }

    /** Nine calls a turn. Answers the grains that heap 6, in one yard with heap 0, has lost and has. */
    private static long spend(GrainYard x, int turns) {
        for (int turn = 1; turn < turns; turn++) {
            x.add(6, 0);
            x.order(0);
            x.alike(0, 6);
            x.become(12, 3);
            x.become(12, 4);
            x.part(turn % 6, -1);
            x.tree(12, 7, 1);
            x.grow(18, turn);
            x.burns(6, 7);
        }
        long all = x.grains(6, 0);
        for (int place = 1; place < 8; place++) {
            all += x.grains(6, place);
        }
        return all;
    }

    private static long roomTaken() {
        com.sun.management.ThreadMXBean threads = (com.sun.management.ThreadMXBean) ManagementFactory.getThreadMXBean();
        return threads.getCurrentThreadAllocatedBytes();
    }
}
