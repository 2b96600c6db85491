/** What each test of yards has at hand: the checks, and small yards and heaps with what they tell. */
abstract class YardChecks {
    static final int[] WRONG_NUMBERS = {-1, -2, 20, 1000, Integer.MIN_VALUE, Integer.MAX_VALUE};

    final Checks checks = new Checks();

    /** An object with one yard; the paths are told as a, b, n. */
    static GrainYard made(int places, int... paths) {
        GrainYard x = new GrainYard();
        lay(x, x.yard(places), paths);
        return x;
    }

    static void lay(GrainYard x, int yard, int... paths) {
        for (int i = 0; i < paths.length; i += 3) {
            x.path(yard, paths[i], paths[i + 1], paths[i + 2]);
        }
    }

    static GrainYard ring3() {
        return made(3, 0, 1, 1, 1, 2, 1, 2, 0, 1);
    }

    /** 0 =2= 1 -1- 2 =2= 3 -1- 0: 12 trees. */
    static GrainYard ring4() {
        return made(4, 0, 1, 2, 1, 2, 1, 2, 3, 2, 3, 0, 1);
    }

    static GrainYard everyTwo(int places, int n) {
        GrainYard x = made(places);
        for (int a = 0; a < places; a++) {
            for (int b = a + 1; b < places; b++) {
                x.path(0, a, b, n);
            }
        }
        return x;
    }

    static GrainYard line8() {
        return made(8, 0, 1, 1, 1, 2, 1, 2, 3, 1, 3, 4, 1, 4, 5, 1, 5, 6, 1, 6, 7, 1);
    }

    static void put(GrainYard x, int heap, int... grains) {
        for (int i = 0; i < grains.length; i++) {
            x.set(heap, i + 1, grains[i]);
        }
    }

    /** Grains at places 1 on, as one text. */
    static String row(GrainYard x, int heap, int places) {
        StringBuilder text = new StringBuilder();
        for (int place = 1; place < places; place++) {
            text.append(x.grains(heap, place)).append(' ');
        }
        return text.toString().trim();
    }

    static String burning(GrainYard x, int heap, int places) {
        StringBuilder text = new StringBuilder();
        for (int place = 0; place < places; place++) {
            text.append(x.burns(heap, place)).append(' ');
        }
        return text.toString().trim();
    }

    /** The bits of a tree, told as place and path for each. */
    static long code(int... told) {
        long tree = 0;
        for (int i = 0; i < told.length; i += 2) {
            tree |= ((long) told[i] | (long) told[i + 1] << 3) << 5 * (i / 2);
        }
        return tree;
    }
}
