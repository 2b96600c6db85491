import java.util.function.Function;

/** Runs of calls by a fixed row of numbers, each answer (or exception) compared with that of PlainYard. */
public final class RandomRunsTest {
    private static final int CALLS = 512;
    private static final int[] ODD = {-1, -2, Integer.MIN_VALUE, Integer.MAX_VALUE, 8, 9, 100};

    private final Checks checks = new Checks();
    private long state;
    private GrainYard real;
    private PlainYard plain;
    private int maxPlaces;
    private int maxGrains;

    public static void main(String[] args) {
        RandomRunsTest test = new RandomRunsTest();
        for (int run = 0; run < 400; run++) {
            test.run(run);
        }
        test.checks.end("RandomRunsTest");
    }

    private int pick(int bound) {
        state = state * 6364136223846793005L + 1442695040888963407L;
        return (int) ((state >>> 33) % bound);
    }

    private void run(int number) {
        state = number * 7919L + 17;
        real = new GrainYard();
        plain = new PlainYard();
        maxPlaces = 2 + number % 7;
        maxGrains = number % 40 == 39 ? 100001 : new int[] {5, 30, 300}[number % 3];
        checks.chapter("run " + number);
        for (int call = 0; call < CALLS; call++) {
            if (call < 8) {
                layYard();
            } else {
                callAnything();
            }
            if (call % 64 == 63) {
                call += compareAll();
            }
        }
    }

    private void same(String name, Function<GrainYard, Object> a, Function<PlainYard, Object> b) {
        checks.due(name, Checks.told(() -> b.apply(plain)), () -> a.apply(real));
    }

    private int nearly(int bound) {
        return pick(25) == 0 ? ODD[pick(ODD.length)] : pick(Math.max(1, bound));
    }

    private void layYard() {
        int places = pick(12) == 0 ? nearly(12) : 2 + pick(maxPlaces - 1);
        same("yard(" + places + ")", x -> x.yard(places), x -> x.yard(places));
        int yard = plain.count(0) - 1;
        for (int i = 0; i < 2 * places && places <= 8; i++) {
            lay(yard, pick(places), pick(places), pick(4));
        }
    }

    private void lay(int yard, int a, int b, int n) {
        same("path(" + yard + ", " + a + ", " + b + ", " + n + ")", x -> x.path(yard, a, b, n), x -> x.path(yard, a, b, n));
    }

    private void callAnything() {
        int yard = nearly(plain.count(0));
        int heap = nearly(plain.count(1));
        int other = nearly(plain.count(1));
        int place = nearly(maxPlaces);
        int n = pick(30) == 0 ? new int[] {-1, 100001, Integer.MIN_VALUE, Integer.MAX_VALUE}[pick(4)] : pick(maxGrains);
        String at = "(" + heap + ", " + place;
        switch (pick(24)) {
            case 0: case 1:
                lay(yard, place, nearly(maxPlaces), nearly(5));
                break;
            case 2:
                same("degree(" + yard + ", " + place + ")", x -> x.degree(yard, place), x -> x.degree(yard, place));
                break;
            case 3:
                same("whole(" + yard + ")", x -> x.whole(yard), x -> x.whole(yard));
                break;
            case 4:
                same("trees(" + yard + ")", x -> x.trees(yard), x -> x.trees(yard));
                break;
            case 5: {
                int i = pick(5) - 1;
                same("part(" + yard + ", " + i + ")", x -> x.part(yard, i), x -> x.part(yard, i));
                break;
            }
            case 6: case 7:
                same("heap(" + yard + ")", x -> x.heap(yard), x -> x.heap(yard));
                break;
            case 8: case 9: case 10: case 11:
                same("set" + at + ", " + n + ")", x -> x.set(heap, place, n), x -> x.set(heap, place, n));
                break;
            case 12:
                same("topple" + at + ")", x -> x.topple(heap, place), x -> x.topple(heap, place));
                break;
            case 13:
                same("settle(" + heap + ")", x -> x.settle(heap), x -> x.settle(heap));
                break;
            case 14: case 15:
                same("drop" + at + ")", x -> x.drop(heap, place), x -> x.drop(heap, place));
                break;
            case 16:
                same("add(" + heap + ", " + other + ")", x -> x.add(heap, other), x -> x.add(heap, other));
                break;
            case 17: case 18: {
                int what = nearly(6);
                same("become(" + heap + ", " + what + ")", x -> { x.become(heap, what); return 0; },
                    x -> { x.become(heap, what); return 0; });
                break;
            }
            case 19:
                same("alike(" + heap + ", " + other + ")", x -> x.alike(heap, other), x -> x.alike(heap, other));
                break;
            case 20: case 21: {
                long tree = ((long) pick(1 << 30) << 30 ^ pick(1 << 30)) & (pick(2) == 0 ? -1L : 0x39ce739ce739ceL);
                long signed = pick(2) == 0 ? tree : ~tree;
                same("grow(" + heap + ", " + signed + ")", x -> x.grow(heap, signed), x -> x.grow(heap, signed));
                break;
            }
            case 22: {
                int what = nearly(3);
                same("is(" + heap + ", " + what + ")", x -> x.is(heap, what), x -> x.is(heap, what));
                same("count(" + what + ")", x -> x.count(what), x -> x.count(what));
                break;
            }
            default: {
                int what = nearly(3);
                same("tree" + at + ", " + what + ")", x -> x.tree(heap, place, what), x -> x.tree(heap, place, what));
                break;
            }
        }
    }

    /** Answers how many calls it made of one heap's state. */
    private int compareAll() {
        if (plain.count(1) == 0) {
            return 0;
        }
        int heap = pick(plain.count(1));
        same("order(" + heap + ")", x -> x.order(heap), x -> x.order(heap));
        same("is(" + heap + ", 1)", x -> x.is(heap, 1), x -> x.is(heap, 1));
        for (int v = 0; v < 8; v++) {
            int place = v;
            String at = "(" + heap + ", " + place;
            same("grains" + at + ")", x -> x.grains(heap, place), x -> x.grains(heap, place));
            same("toppled" + at + ")", x -> x.toppled(heap, place), x -> x.toppled(heap, place));
            same("burns" + at + ")", x -> x.burns(heap, place), x -> x.burns(heap, place));
            same("tree" + at + ", 0)", x -> x.tree(heap, place, 0), x -> x.tree(heap, place, 0));
            same("tree" + at + ", 1)", x -> x.tree(heap, place, 1), x -> x.tree(heap, place, 1));
        }
        return 42;
    }
}
