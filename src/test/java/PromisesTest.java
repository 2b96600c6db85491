import java.util.HashSet;
import java.util.Set;

/** Each promise of the document by itself: ordinary calls, the edges it names, and wrong ones. */
public final class PromisesTest extends YardChecks {
    public static void main(String[] args) {
        PromisesTest test = new PromisesTest();
        test.newObject();
        test.yard();
        test.path();
        test.degree();
        test.whole();
        test.trees();
        test.part();
        test.heap();
        test.set();
        test.grains();
        test.topple();
        test.settle();
        test.settleMuch();
        test.drop();
        test.toppled();
        test.is();
        test.burns();
        test.add();
        test.become();
        test.becomeByEveryStillHeap();
        test.alike();
        test.order();
        test.tree();
        test.grow();
        test.growEveryTree();
        test.count();
        test.checks.end("PromisesTest");
    }

    private void newObject() {
        checks.chapter("promise 1");
        checks.due("NONE", -1, () -> GrainYard.NONE);
        GrainYard x = new GrainYard();
        checks.due("count(0)", 0, () -> x.count(0));
        checks.due("count(1)", 0, () -> x.count(1));
        checks.dueThrow("whole(0)", Checks.NO_SUCH, () -> x.whole(0));
        checks.dueThrow("grains(0, 0)", Checks.NO_SUCH, () -> x.grains(0, 0));
    }

    private void yard() {
        checks.chapter("promise 2");
        GrainYard x = new GrainYard();
        for (int places : new int[] {1, 0, -1, 9, Integer.MIN_VALUE, Integer.MAX_VALUE}) {
            checks.due("yard(" + places + ")", -1, () -> x.yard(places));
        }
        checks.due("count(0)", 0, () -> x.count(0));
        int[] right = {2, 8, 3, 4, 5, 6};
        for (int i = 0; i < 6; i++) {
            int places = right[i];
            checks.due("yard(" + places + ")", i, () -> x.yard(places));
            checks.due("count(0)", i + 1, () -> x.count(0));
        }
        checks.due("a seventh yard(3)", -1, () -> x.yard(3));
        checks.due("count(0)", 6, () -> x.count(0));
        checks.due("degree(1, 7)", 0, () -> x.degree(1, 7));
        checks.dueThrow("degree(0, 2)", Checks.NO_SUCH, () -> x.degree(0, 2));
    }

    private void path() {
        checks.chapter("promise 3");
        GrainYard x = made(4);
        checks.due("path(0, 1, 2, 3)", 0, () -> x.path(0, 1, 2, 3));
        checks.due("path(0, 2, 1, 1)", 3, () -> x.path(0, 2, 1, 1));
        checks.due("path(0, 1, 2, 0)", 1, () -> x.path(0, 1, 2, 0));
        checks.due("path(0, 1, 2, 2)", 0, () -> x.path(0, 1, 2, 2));
        for (int n : new int[] {4, -1, Integer.MAX_VALUE, Integer.MIN_VALUE}) {
            checks.due("path(0, 1, 2, " + n + ")", -1, () -> x.path(0, 1, 2, n));
        }
        checks.due("path(0, 1, 1, 1)", -1, () -> x.path(0, 1, 1, 1));
        checks.due("path(0, 0, 0, 0)", -1, () -> x.path(0, 0, 0, 0));
        checks.due("degree(0, 1) stays", 2, () -> x.degree(0, 1));
        for (int wrong : WRONG_NUMBERS) {
            checks.dueThrow("path(" + wrong + ", 0, 1, 1)", Checks.NO_SUCH, () -> x.path(wrong, 0, 1, 1));
            checks.dueThrow("path(0, " + wrong + ", 1, 1)", Checks.NO_SUCH, () -> x.path(0, wrong, 1, 1));
            checks.dueThrow("path(0, 1, " + wrong + ", 9)", Checks.NO_SUCH, () -> x.path(0, 1, wrong, 9));
        }
        checks.dueThrow("path(0, 4, 4, 1)", Checks.NO_SUCH, () -> x.path(0, 4, 4, 1));
        checks.due("path(0, 0, 1, 1)", 0, () -> x.path(0, 0, 1, 1));
        checks.due("heap(0) not whole", -1, () -> x.heap(0));
        checks.due("path(0, 0, 3, 1) after no heap", 0, () -> x.path(0, 0, 3, 1));
        checks.due("heap(0)", 0, () -> x.heap(0));
        checks.due("path(0, 0, 3, 2) with a heap", -1, () -> x.path(0, 0, 3, 2));
        checks.due("path(0, 0, 3, 1) with a heap", -1, () -> x.path(0, 0, 3, 1));
        checks.due("degree(0, 3) stays", 1, () -> x.degree(0, 3));
        checks.dueThrow("path(0, 0, 4, 1) with a heap", Checks.NO_SUCH, () -> x.path(0, 0, 4, 1));
        checks.due("yard(2)", 1, () -> x.yard(2));
        checks.due("path(1, 0, 1, 1) of another yard", 0, () -> x.path(1, 0, 1, 1));
    }

    private void degree() {
        checks.chapter("promise 4");
        GrainYard x = ring4();
        int[] want = {3, 3, 3, 3};
        for (int place = 0; place < 4; place++) {
            int at = place;
            checks.due("degree(0, " + at + ")", want[at], () -> x.degree(0, at));
        }
        x.path(0, 1, 2, 3);
        x.path(0, 0, 1, 0);
        checks.due("degree(0, 0)", 1, () -> x.degree(0, 0));
        checks.due("degree(0, 1)", 3, () -> x.degree(0, 1));
        checks.due("degree(0, 2)", 5, () -> x.degree(0, 2));
        GrainYard most = everyTwo(8, 3);
        checks.due("degree(0, 7) of most", 21, () -> most.degree(0, 7));
        for (int wrong : WRONG_NUMBERS) {
            checks.dueThrow("degree(" + wrong + ", 0)", Checks.NO_SUCH, () -> x.degree(wrong, 0));
            checks.dueThrow("degree(0, " + wrong + ")", Checks.NO_SUCH, () -> x.degree(0, wrong));
        }
        checks.dueThrow("degree(0, 4)", Checks.NO_SUCH, () -> x.degree(0, 4));
    }

    private void whole() {
        checks.chapter("promise 5");
        GrainYard x = made(8);
        checks.due("whole(0)", false, () -> x.whole(0));
        // The line is laid from its far end, against the order of the places.
        lay(x, 0, 0, 7, 1, 7, 6, 1, 6, 5, 1, 5, 4, 1, 4, 3, 1, 3, 2, 1);
        checks.due("whole(0) without 1", false, () -> x.whole(0));
        x.path(0, 2, 1, 3);
        checks.due("whole(0)", true, () -> x.whole(0));
        x.path(0, 5, 4, 0);
        checks.due("whole(0) in two", false, () -> x.whole(0));
        GrainYard apart = made(4, 0, 1, 1, 2, 3, 3);
        checks.due("whole(0) of two pairs", false, () -> apart.whole(0));
        for (int wrong : WRONG_NUMBERS) {
            checks.dueThrow("whole(" + wrong + ")", Checks.NO_SUCH, () -> x.whole(wrong));
        }
    }

    private void trees() {
        checks.chapter("promise 6");
        GrainYard none = made(4, 0, 1, 1, 2, 3, 3);
        checks.due("trees(0) not whole", 0, () -> none.trees(0));
        GrainYard hole = made(4, 1, 2, 3, 2, 3, 3, 1, 3, 3);
        checks.due("trees(0) without the hole", 0, () -> hole.trees(0));
        checks.due("trees(0) of a ring of 3", 3, () -> ring3().trees(0));
        checks.due("trees(0) of a ring of 4", 12, () -> ring4().trees(0));
        checks.due("trees(0) of a line", 1, () -> line8().trees(0));
        GrainYard two = made(2, 0, 1, 3);
        checks.due("trees(0) of 3 paths", 3, () -> two.trees(0));
        checks.due("trees(0) of 5, every two", 125, () -> everyTwo(5, 1).trees(0));
        checks.due("trees(0) of the most paths", 262144L * 2187L, () -> everyTwo(8, 3).trees(0));
        GrainYard x = ring3();
        x.heap(0);
        checks.due("trees(0) with a heap", 3, () -> x.trees(0));
        for (int wrong : WRONG_NUMBERS) {
            checks.dueThrow("trees(" + wrong + ")", Checks.NO_SUCH, () -> x.trees(wrong));
        }
    }

    private void parts(String name, GrainYard x, long... want) {
        checks.due("part(0, -1) of " + name, want.length, () -> x.part(0, -1));
        for (int i = 0; i < want.length; i++) {
            int at = i;
            checks.due("part(0, " + i + ") of " + name, want[i], () -> x.part(0, at));
        }
        for (int wrong : new int[] {want.length, want.length + 1, 7, 8, -2, Integer.MIN_VALUE, Integer.MAX_VALUE}) {
            if (wrong >= want.length || wrong < 0) {
                checks.dueThrow("part(0, " + wrong + ") of " + name, Checks.NO_SUCH, () -> x.part(0, wrong));
            }
        }
    }

    private void part() {
        checks.chapter("promise 7");
        parts("a line", line8());
        parts("a ring of 3", ring3(), 3);
        parts("a ring of 4", ring4(), 12);
        parts("3 paths", made(2, 0, 1, 3), 3);
        parts("5, every two", everyTwo(5, 1), 5, 5, 5);
        parts("4, every two by 2", everyTwo(4, 2), 2, 8, 8);
        parts("the most paths", everyTwo(8, 3), 3, 24, 24, 24, 24, 24, 24);
        // Three ways of 2, of 3 and of 2 paths: 2, 3 and 2 are, in order of division, 2 and 6.
        parts("a line by 2, 3, 2", made(4, 0, 1, 2, 1, 2, 3, 2, 3, 2), 2, 6);
        GrainYard x = made(3, 0, 1, 1);
        checks.dueThrow("part(0, -1) not whole", Checks.BAD_STATE, () -> x.part(0, -1));
        checks.dueThrow("part(0, 0) not whole", Checks.BAD_STATE, () -> x.part(0, 0));
        checks.dueThrow("part(0, 99) not whole", Checks.BAD_STATE, () -> x.part(0, 99));
        for (int wrong : WRONG_NUMBERS) {
            checks.dueThrow("part(" + wrong + ", -1)", Checks.NO_SUCH, () -> x.part(wrong, -1));
        }
    }

    private void heap() {
        checks.chapter("promise 8");
        GrainYard x = made(3, 0, 1, 1);
        checks.due("heap(0) not whole", -1, () -> x.heap(0));
        checks.due("count(1)", 0, () -> x.count(1));
        x.path(0, 1, 2, 1);
        lay(x, x.yard(2), 0, 1, 2);
        for (int i = 0; i < 20; i++) {
            int want = i;
            checks.due("heap number " + i, want, () -> x.heap(want % 2));
        }
        checks.due("a 21st heap", -1, () -> x.heap(0));
        checks.due("count(1)", 20, () -> x.count(1));
        checks.due("grains(18, 2)", 0, () -> x.grains(18, 2));
        checks.dueThrow("grains(19, 2)", Checks.NO_SUCH, () -> x.grains(19, 2));
        for (int wrong : WRONG_NUMBERS) {
            checks.dueThrow("heap(" + wrong + ")", Checks.NO_SUCH, () -> x.heap(wrong));
        }
    }

    private void set() {
        checks.chapter("promise 9");
        GrainYard x = ring3();
        x.heap(0);
        x.heap(0);
        checks.due("set(0, 1, 100000)", 0, () -> x.set(0, 1, 100000));
        checks.due("set(0, 1, 7)", 100000, () -> x.set(0, 1, 7));
        checks.due("set(0, 1, 0)", 7, () -> x.set(0, 1, 0));
        checks.due("set(0, 2, 5)", 0, () -> x.set(0, 2, 5));
        for (int n : new int[] {-1, 100001, Integer.MIN_VALUE, Integer.MAX_VALUE}) {
            checks.dueThrow("set(0, 2, " + n + ")", Checks.BAD_ARGUMENT, () -> x.set(0, 2, n));
            checks.dueThrow("set(0, 0, " + n + ")", Checks.NO_SUCH, () -> x.set(0, 0, n));
            checks.dueThrow("set(2, 1, " + n + ")", Checks.NO_SUCH, () -> x.set(2, 1, n));
        }
        checks.due("row of 0", "0 5", () -> row(x, 0, 3));
        checks.due("row of 1", "0 0", () -> row(x, 1, 3));
        checks.due("grains(0, 0)", 0, () -> x.grains(0, 0));
        wrongHeapsAndPlaces(x, "set", (heap, place) -> x.set(heap, place, 1), 1);
    }

    private interface AtPlace {
        Object answer(int heap, int place);
    }

    private void wrongHeapsAndPlaces(GrainYard x, String name, AtPlace call, int first) {
        for (int wrong : WRONG_NUMBERS) {
            checks.dueThrow(name + " of heap " + wrong, Checks.NO_SUCH, () -> call.answer(wrong, 1));
            checks.dueThrow(name + " at place " + wrong, Checks.NO_SUCH, () -> call.answer(0, wrong));
        }
        int heaps = x.count(1);
        checks.dueThrow(name + " of heap " + heaps, Checks.NO_SUCH, () -> call.answer(heaps, 1));
        checks.dueThrow(name + " at place 3 of 3", Checks.NO_SUCH, () -> call.answer(0, 3));
        if (first > 0) {
            checks.dueThrow(name + " at place 0", Checks.NO_SUCH, () -> call.answer(0, 0));
        }
    }

    private void grains() {
        checks.chapter("promise 10");
        GrainYard x = ring3();
        x.heap(0);
        checks.due("grains(0, 0)", 0, () -> x.grains(0, 0));
        put(x, 0, 3, 4);
        checks.due("grains(0, 1)", 3, () -> x.grains(0, 1));
        checks.due("grains(0, 2)", 4, () -> x.grains(0, 2));
        x.topple(0, 2);
        x.topple(0, 2);
        checks.due("row", "5 0", () -> row(x, 0, 3));
        checks.due("grains(0, 0)", 2, () -> x.grains(0, 0));
        wrongHeapsAndPlaces(x, "grains", (heap, place) -> x.grains(heap, place), 0);
    }

    private void topple() {
        checks.chapter("promise 11");
        GrainYard x = ring4();
        x.heap(0);
        put(x, 0, 2, 3, 7);
        checks.due("topple(0, 1) with one too few", false, () -> x.topple(0, 1));
        checks.due("topple(0, 2) with just enough", true, () -> x.topple(0, 2));
        checks.due("row", "3 0 9", () -> row(x, 0, 4));
        checks.due("topple(0, 1)", true, () -> x.topple(0, 1));
        checks.due("row", "0 1 9", () -> row(x, 0, 4));
        checks.due("topple(0, 3) once of three times", true, () -> x.topple(0, 3));
        checks.due("row", "0 3 6", () -> row(x, 0, 4));
        checks.due("grains(0, 0)", 3, () -> x.grains(0, 0));
        checks.due("toppled(0, 3) is of settling alone", 0, () -> x.toppled(0, 3));
        checks.due("topple(0, 1)", false, () -> x.topple(0, 1));
        checks.due("row stays", "0 3 6", () -> row(x, 0, 4));
        GrainYard y = ring3();
        y.heap(0);
        wrongHeapsAndPlaces(y, "topple", (heap, place) -> y.topple(heap, place), 1);
    }

    private void settle() {
        checks.chapter("promise 12");
        GrainYard x = ring3();
        x.heap(0);
        checks.due("settle(0) of none", 0, () -> x.settle(0));
        put(x, 0, 3, 0);
        checks.due("settle(0)", 1, () -> x.settle(0));
        checks.due("row", "1 1", () -> row(x, 0, 3));
        put(x, 0, 2, 2);
        checks.due("settle(0) of 2 2", 2, () -> x.settle(0));
        checks.due("row", "1 1", () -> row(x, 0, 3));
        checks.due("grains(0, 0)", 3, () -> x.grains(0, 0));
        checks.due("settle(0) again", 0, () -> x.settle(0));
        for (int wrong : WRONG_NUMBERS) {
            checks.dueThrow("settle(" + wrong + ")", Checks.NO_SUCH, () -> x.settle(wrong));
        }
    }

    /** In a line all comes down to one grain at each place but the last: so each step's flow is known. */
    private void settleMuch() {
        GrainYard x = line8();
        x.heap(0);
        put(x, 0, 100000, 100000, 100000, 100000, 100000, 100000, 100000);
        long all = 0;
        long[] times = new long[8];
        for (int place = 1; place < 8; place++) {
            times[place] = times[place - 1] + (8 - place) * 100000L - (7 - place);
            all += times[place];
        }
        long want = all;
        checks.due("settle(0) of the most", want, () -> x.settle(0));
        checks.due("row", "1 1 1 1 1 1 0", () -> row(x, 0, 8));
        checks.due("grains(0, 0)", 699994, () -> x.grains(0, 0));
        for (int place = 0; place < 8; place++) {
            int at = place;
            checks.due("toppled(0, " + at + ")", times[at], () -> x.toppled(0, at));
        }
        checks.due("drop(0, 7)", 28, () -> x.drop(0, 7));
        checks.due("grains(0, 0)", 699995, () -> x.grains(0, 0));
    }

    private void drop() {
        checks.chapter("promise 13");
        GrainYard x = ring3();
        x.heap(0);
        checks.due("drop(0, 1)", 0, () -> x.drop(0, 1));
        checks.due("row", "1 0", () -> row(x, 0, 3));
        checks.due("drop(0, 2)", 0, () -> x.drop(0, 2));
        checks.due("drop(0, 2)", 2, () -> x.drop(0, 2));
        checks.due("row", "0 1", () -> row(x, 0, 3));
        checks.due("grains(0, 0)", 2, () -> x.grains(0, 0));
        put(x, 0, 9, 0);
        checks.due("drop(0, 2) of what isn't still", 9, () -> x.drop(0, 2));
        checks.due("row", "0 1", () -> row(x, 0, 3));
        wrongHeapsAndPlaces(x, "drop", (heap, place) -> x.drop(heap, place), 1);
        checks.due("row stays", "0 1", () -> row(x, 0, 3));
    }

    private void toppled() {
        checks.chapter("promise 14");
        GrainYard x = ring3();
        x.heap(0);
        x.heap(0);
        checks.due("toppled(0, 1)", 0, () -> x.toppled(0, 1));
        put(x, 0, 9, 1);
        x.settle(0);
        checks.due("toppled(0, 1)", 6, () -> x.toppled(0, 1));
        checks.due("toppled(0, 2)", 3, () -> x.toppled(0, 2));
        checks.due("toppled(0, 0)", 0, () -> x.toppled(0, 0));
        checks.due("toppled(1, 1)", 0, () -> x.toppled(1, 1));
        put(x, 0, 2, 2);
        x.topple(0, 1);
        for (int what = 0; what < 5; what++) {
            x.become(0, what);
        }
        x.grow(0, 0L);
        x.alike(0, 1);
        x.order(0);
        checks.due("toppled(0, 1) stays", 6, () -> x.toppled(0, 1));
        checks.due("toppled(0, 2) stays", 3, () -> x.toppled(0, 2));
        x.settle(0);
        checks.due("toppled(0, 1) of a still one", 0, () -> x.toppled(0, 1));
        put(x, 0, 1, 1);
        x.drop(0, 2);
        checks.due("toppled(0, 2) by drop", 1, () -> x.toppled(0, 2));
        put(x, 1, 1, 0);
        put(x, 0, 1, 0);
        x.add(0, 1);
        checks.due("toppled(0, 1) by add", 1, () -> x.toppled(0, 1));
        checks.due("toppled(0, 2) by add", 0, () -> x.toppled(0, 2));
        checks.due("toppled(1, 1) of the other", 0, () -> x.toppled(1, 1));
        wrongHeapsAndPlaces(x, "toppled", (heap, place) -> x.toppled(heap, place), 0);
    }

    private void is() {
        checks.chapter("promise 15");
        GrainYard x = ring3();
        x.heap(0);
        boolean[][] again = {{false, true}, {true, true}};
        for (int a = 0; a < 4; a++) {
            for (int b = 0; b < 4; b++) {
                put(x, 0, a, b);
                boolean still = a < 2 && b < 2;
                boolean comes = still && again[a][b];
                checks.due("is(0, 0) of " + a + " " + b, still, () -> x.is(0, 0));
                checks.due("is(0, 1) of " + a + " " + b, comes, () -> x.is(0, 1));
            }
        }
        for (int wrong : new int[] {2, -1, Integer.MIN_VALUE, Integer.MAX_VALUE}) {
            checks.dueThrow("is(0, " + wrong + ")", Checks.NO_SUCH, () -> x.is(0, wrong));
        }
        for (int wrong : WRONG_NUMBERS) {
            checks.dueThrow("is(" + wrong + ", 0)", Checks.NO_SUCH, () -> x.is(wrong, 0));
        }
    }

    private void burns() {
        checks.chapter("promise 16");
        GrainYard x = ring4();
        x.heap(0);
        checks.due("rounds of none", "0 -1 -1 -1", () -> burning(x, 0, 4));
        put(x, 0, 2, 2, 2);
        checks.due("rounds of the fullest", "0 1 2 1", () -> burning(x, 0, 4));
        put(x, 0, 1, 2, 1);
        checks.due("rounds of 1 2 1", "0 1 2 3", () -> burning(x, 0, 4));
        put(x, 0, 0, 1, 2);
        checks.due("rounds of 0 1 2", "0 3 2 1", () -> burning(x, 0, 4));
        put(x, 0, 1, 0, 1);
        checks.due("rounds of what doesn't come again", "0 1 -1 -1", () -> burning(x, 0, 4));
        put(x, 0, 1, 2, 3);
        checks.due("rounds of what isn't still", "-1 -1 -1 -1", () -> burning(x, 0, 4));
        // Round 2 must not help itself: places of one round burn all at once.
        GrainYard line = line8();
        line.heap(0);
        line.become(0, 1);
        checks.due("rounds in a line", "0 1 2 3 4 5 6 7", () -> burning(line, 0, 8));
        GrainYard y = ring3();
        y.heap(0);
        wrongHeapsAndPlaces(y, "burns", (heap, place) -> y.burns(heap, place), 0);
    }

    private void add() {
        checks.chapter("promise 17");
        GrainYard x = ring3();
        x.heap(0);
        x.heap(0);
        put(x, 0, 1, 1);
        put(x, 1, 4, 1);
        x.topple(1, 1);
        checks.due("grains(1, 0)", 1, () -> x.grains(1, 0));
        checks.due("add(0, 1)", 4, () -> x.add(0, 1));
        checks.due("row", "1 1", () -> row(x, 0, 3));
        checks.due("the other's stays", "2 2", () -> row(x, 1, 3));
        checks.due("grains(0, 0): lost ones aren't added", 5, () -> x.grains(0, 0) + x.grains(1, 0));
        put(x, 0, 1, 3);
        checks.due("add(0, 0)", 7, () -> x.add(0, 0));
        checks.due("row", "0 1", () -> row(x, 0, 3));
        lay(x, x.yard(3), 0, 1, 1, 1, 2, 1, 2, 0, 1);
        x.heap(1);
        checks.dueThrow("add(0, 2) of two yards", Checks.BAD_ARGUMENT, () -> x.add(0, 2));
        checks.dueThrow("add(2, 0) of two yards", Checks.BAD_ARGUMENT, () -> x.add(2, 0));
        for (int wrong : WRONG_NUMBERS) {
            checks.dueThrow("add(" + wrong + ", 0)", Checks.NO_SUCH, () -> x.add(wrong, 0));
            checks.dueThrow("add(0, " + wrong + ")", Checks.NO_SUCH, () -> x.add(0, wrong));
        }
        checks.due("row stays", "0 1", () -> row(x, 0, 3));
        GrainYard most = line8();
        most.heap(0);
        put(most, 0, 100000, 100000, 100000, 100000, 100000, 100000, 100000);
        most.add(0, 0);
        checks.due("lost of the most, twice", 1399994, () -> most.grains(0, 0));
    }

    private void become() {
        checks.chapter("promise 18");
        GrainYard x = ring4();
        x.heap(0);
        put(x, 0, 7, 0, 8);
        x.settle(0);
        long lost = x.grains(0, 0);
        x.become(0, 1);
        checks.due("row of the fullest", "2 2 2", () -> row(x, 0, 4));
        x.become(0, 0);
        checks.due("row of no grains", "0 0 0", () -> row(x, 0, 4));
        x.become(0, 2);
        checks.due("order of nothing", 1, () -> x.order(0));
        checks.due("nothing comes again", true, () -> x.is(0, 1));
        checks.due("grains(0, 0) stays", lost, () -> x.grains(0, 0));
        for (int wrong : new int[] {5, -1, Integer.MIN_VALUE, Integer.MAX_VALUE}) {
            checks.dueThrow("become(0, " + wrong + ")", Checks.NO_SUCH, () -> {
                x.become(0, wrong);
                return 0;
            });
        }
        for (int wrong : WRONG_NUMBERS) {
            checks.dueThrow("become(" + wrong + ", 0)", Checks.NO_SUCH, () -> {
                x.become(wrong, 0);
                return 0;
            });
        }
        GrainYard y = ring3();
        y.heap(0);
        put(y, 0, 100000, 3);
        y.become(0, 3);
        checks.due("opposite of 100000 3", "0 1", () -> row(y, 0, 3));
        put(y, 0, 100000, 3);
        y.become(0, 4);
        checks.due("of the kind of 100000 3", "1 0", () -> row(y, 0, 3));
        y.become(0, 2);
        checks.due("nothing", "1 1", () -> row(y, 0, 3));
        checks.due("grains(0, 0)", 0, () -> y.grains(0, 0));
    }

    private void becomeByEveryStillHeap() {
        Set<String> found = new HashSet<>();
        for (int code = 0; code < 27; code++) {
            GrainYard x = ring4();
            for (int i = 0; i < 4; i++) {
                x.heap(0);
                put(x, i, code % 3, code / 3 % 3, code / 9);
            }
            String name = " of " + row(x, 0, 4);
            x.become(1, 4);
            x.become(2, 3);
            x.become(3, 2);
            checks.due("4 comes again" + name, true, () -> x.is(1, 1));
            checks.due("4 is of its kind" + name, true, () -> x.alike(0, 1));
            checks.due("4 stays, if it comes again" + name, x.is(0, 1), () -> row(x, 0, 4).equals(row(x, 1, 4)));
            checks.due("3 comes again" + name, true, () -> x.is(2, 1));
            found.add(row(x, 1, 4));
            x.add(1, 2);
            checks.due("the sum with its opposite" + name, row(x, 3, 4), () -> row(x, 1, 4));
        }
        checks.due("as many come again as there are trees", 12, () -> found.size());
    }

    private void alike() {
        checks.chapter("promise 19");
        GrainYard x = ring3();
        x.heap(0);
        x.heap(0);
        for (int code = 0; code < 256; code++) {
            int a = code & 3;
            int b = code >> 2 & 3;
            int c = code >> 4 & 3;
            int d = code >> 6;
            GrainYard y = ring3();
            y.heap(0);
            y.heap(0);
            put(y, 0, a, b);
            put(y, 1, c, d);
            // A grain at place 1 is the opposite of one at place 2, and three are none.
            boolean want = Math.floorMod(a - b - c + d, 3) == 0;
            checks.due("alike of " + a + " " + b + " and " + c + " " + d, want, () -> y.alike(0, 1));
        }
        put(x, 0, 100000, 5);
        put(x, 1, 99998, 6);
        checks.due("alike(0, 1) one toppling apart", true, () -> x.alike(0, 1));
        checks.due("row stays", "100000 5", () -> row(x, 0, 3));
        checks.due("alike(0, 0)", true, () -> x.alike(0, 0));
        lay(x, x.yard(3), 0, 1, 1, 1, 2, 1, 2, 0, 1);
        x.heap(1);
        checks.dueThrow("alike(0, 2) of two yards", Checks.BAD_ARGUMENT, () -> x.alike(0, 2));
        for (int wrong : WRONG_NUMBERS) {
            checks.dueThrow("alike(" + wrong + ", 0)", Checks.NO_SUCH, () -> x.alike(wrong, 0));
            checks.dueThrow("alike(0, " + wrong + ")", Checks.NO_SUCH, () -> x.alike(0, wrong));
        }
    }

    private void order() {
        checks.chapter("promise 20");
        for (int code = 0; code < 27; code++) {
            GrainYard x = ring4();
            x.heap(0);
            x.heap(0);
            x.heap(0);
            put(x, 0, code % 3, code / 3 % 3, code / 9);
            x.become(1, 2);
            x.become(2, 2);
            long times = 0;
            do {
                x.add(1, 0);
                times++;
            } while (!row(x, 1, 4).equals(row(x, 2, 4)));
            checks.due("order(0) of " + row(x, 0, 4), times, () -> x.order(0));
        }
        GrainYard x = ring3();
        x.heap(0);
        checks.due("order(0) of none", 1, () -> x.order(0));
        put(x, 0, 100000, 99999);
        checks.due("order(0) of 100000 99999", 3, () -> x.order(0));
        checks.due("row stays", "100000 99999", () -> row(x, 0, 3));
        put(x, 0, 100000, 100000);
        checks.due("order(0) of 100000 100000", 1, () -> x.order(0));
        GrainYard most = everyTwo(8, 3);
        most.heap(0);
        put(most, 0, 100000, 1, 99999, 3, 100000, 0, 100000);
        checks.due("order(0) among the most paths", 24, () -> most.order(0));
        for (int wrong : WRONG_NUMBERS) {
            checks.dueThrow("order(" + wrong + ")", Checks.NO_SUCH, () -> x.order(wrong));
        }
    }

    private void tree() {
        checks.chapter("promise 21");
        GrainYard x = ring4();
        x.heap(0);
        put(x, 0, 1, 2, 1);
        int[][] want = {{0, 0}, {1, 0}, {2, 1}};
        for (int place = 1; place < 4; place++) {
            int at = place;
            checks.due("tree(0, " + at + ", 0)", want[at - 1][0], () -> x.tree(0, at, 0));
            checks.due("tree(0, " + at + ", 1)", want[at - 1][1], () -> x.tree(0, at, 1));
        }
        for (int wrong : new int[] {2, -1, Integer.MIN_VALUE, Integer.MAX_VALUE}) {
            checks.dueThrow("tree(0, 1, " + wrong + ")", Checks.NO_SUCH, () -> x.tree(0, 1, wrong));
        }
        put(x, 0, 1, 0, 1);
        checks.dueThrow("tree(0, 1, 0) of what doesn't come again", Checks.BAD_STATE, () -> x.tree(0, 1, 0));
        checks.dueThrow("tree(0, 1, 2) of what doesn't come again", Checks.NO_SUCH, () -> x.tree(0, 1, 2));
        checks.dueThrow("tree(0, 0, 0) of what doesn't come again", Checks.NO_SUCH, () -> x.tree(0, 0, 0));
        put(x, 0, 2, 2, 3);
        checks.dueThrow("tree(0, 1, 1) of what isn't still", Checks.BAD_STATE, () -> x.tree(0, 1, 1));
        GrainYard y = ring3();
        y.heap(0);
        y.become(0, 1);
        wrongHeapsAndPlaces(y, "tree", (heap, place) -> y.tree(heap, place, 0), 1);
    }

    private void grow() {
        checks.chapter("promise 22");
        GrainYard x = ring4();
        x.heap(0);
        put(x, 0, 5, 5, 5);
        x.settle(0);
        String before = row(x, 0, 4);
        long lost = x.grains(0, 0);
        long times = x.toppled(0, 2);
        long[] none = {
            code(2, 0, 1, 0, 0, 0), code(0, 2, 1, 0, 0, 0), code(0, 0, 0, 0, 0, 0), code(1, 0, 1, 0, 0, 0),
            code(0, 0, 7, 0, 0, 0), code(0, 0, 4, 0, 0, 0), code(0, 0, 3, 0, 2, 0), code(0, 0, 1, 3, 0, 0), -1L,
            Long.MAX_VALUE, Long.MIN_VALUE
        };
        for (long tree : none) {
            checks.due("grow(0, " + tree + ")", false, () -> x.grow(0, tree));
            checks.due("row stays", before, () -> row(x, 0, 4));
        }
        checks.due("grow(0, 1 0, 1 0, 2 1)", true, () -> x.grow(0, code(0, 0, 1, 0, 2, 1)));
        checks.due("row", "1 2 1", () -> row(x, 0, 4));
        long high = code(0, 1, 3, 1, 0, 0) | -1L << 15;
        checks.due("grow(0, with all higher bits)", true, () -> x.grow(0, high));
        checks.due("row", "2 2 2", () -> row(x, 0, 4));
        checks.due("grains(0, 0) stays", lost, () -> x.grains(0, 0));
        checks.due("toppled(0, 2) stays", times, () -> x.toppled(0, 2));
        GrainYard line = line8();
        line.heap(0);
        long all = 0;
        for (int place = 7; place > 0; place--) {
            all = all << 5 | place - 1;
        }
        long tree = all;
        checks.due("grow of a line of 8", true, () -> line.grow(0, tree));
        checks.due("row", "1 1 1 1 1 1 0", () -> row(line, 0, 8));
        for (int wrong : WRONG_NUMBERS) {
            checks.dueThrow("grow(" + wrong + ", 0)", Checks.NO_SUCH, () -> x.grow(wrong, 0L));
        }
    }

    private void growEveryTree() {
        Set<String> found = new HashSet<>();
        int[] paths = {0, 1, 2, 1, 2, 1, 2, 3, 2, 3, 0, 1, 1, 3, 3};
        long trees = made(4, paths).trees(0);
        for (long tree = 0; tree < 1 << 15; tree++) {
            GrainYard x = made(4, paths);
            x.heap(0);
            if (!x.grow(0, tree)) {
                continue;
            }
            found.add(row(x, 0, 4));
            checks.due("what " + tree + " grows comes again", true, () -> x.is(0, 1));
            checks.due("the tree of what " + tree + " grows", tree, () -> code(x.tree(0, 1, 0), x.tree(0, 1, 1),
                x.tree(0, 2, 0), x.tree(0, 2, 1), x.tree(0, 3, 0), x.tree(0, 3, 1)));
        }
        checks.due("as many heaps as trees", trees, () -> found.size());
    }

    private void count() {
        checks.chapter("promise 23");
        GrainYard x = ring3();
        x.yard(2);
        x.yard(1);
        x.heap(0);
        x.heap(1);
        x.heap(0);
        x.heap(0);
        checks.due("count(0)", 2, () -> x.count(0));
        checks.due("count(1)", 3, () -> x.count(1));
        for (int wrong : new int[] {2, -1, Integer.MIN_VALUE, Integer.MAX_VALUE}) {
            checks.dueThrow("count(" + wrong + ")", Checks.NO_SUCH, () -> x.count(wrong));
        }
    }
}
