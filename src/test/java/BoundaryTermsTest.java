import java.util.ArrayList;
import java.util.Arrays;
import java.util.HashSet;
import java.util.List;
import java.util.Set;

/** The borders of what the document's terms say: a test for each sentence that has one, named by the sentence. */
public final class BoundaryTermsTest extends YardChecks {
    public static void main(String[] args) {
        BoundaryTermsTest test = new BoundaryTermsTest();
        test.atMostSixYards();
        test.twoToEightPlaces();
        test.noneToThreePaths();
        test.placeNoughtIsTheHole();
        test.degreeOfAPlace();
        test.wholeByAPath();
        test.wholeOnlyFromTheHole();
        test.atMostTwentyHeaps();
        test.grainsWhenTheyAreSet();
        test.noneAtFirst();
        test.yardWithAHeapStays();
        test.atLeastDegreeTopples();
        test.toppleAlongEachPath();
        test.stillUpToTheFullest();
        test.theSameInWhateverOrder();
        test.kindBelowNothingOnTheWay();
        test.kindByUndoing();
        test.kindOneGrainApart();
        test.theHoleBurnsFirst();
        test.atLeastAsManyBurns();
        test.allAtOnceBurn();
        test.comesAgainOnlyIfStill();
        test.ofEachKindJustOne();
        test.theFullest();
        test.nothing();
        test.sumWithNothing();
        test.opposite();
        test.orderFromOneOn();
        test.orderUpToTheTrees();
        test.kindAndOrderOfTheMostGrains();
        test.treeOfTheFirstAndLastPath();
        test.treeByThePlacesInOrder();
        test.treeOfTheRoundJustAhead();
        test.asManyAsTrees();
        test.partsThatAreOneAreNone();
        test.eachPartDividesTheNext();
        test.checks.end("BoundaryTermsTest");
    }

    private void atMostSixYards() {
        checks.chapter("YARDS, numbered from 0 on, at most 6");
        GrainYard x = new GrainYard();
        for (int i = 0; i < 6; i++) {
            int number = i;
            checks.dueThrow("degree(" + i + ", 0) ahead of it", Checks.NO_SUCH, () -> x.degree(number, 0));
            checks.due("yard(8), number " + i, number, () -> x.yard(8));
            checks.due("degree(" + i + ", 7)", 0, () -> x.degree(number, 7));
        }
        checks.due("a seventh", -1, () -> x.yard(8));
        checks.due("a seventh of too few places", -1, () -> x.yard(1));
        checks.due("count(0)", 6, () -> x.count(0));
        checks.dueThrow("degree(6, 0)", Checks.NO_SUCH, () -> x.degree(6, 0));
        checks.due("path(5, 0, 7, 3) in the sixth", 0, () -> x.path(5, 0, 7, 3));
        checks.due("degree(5, 7)", 3, () -> x.degree(5, 7));
        checks.due("degree(4, 7)", 0, () -> x.degree(4, 7));
    }

    private void twoToEightPlaces() {
        checks.chapter("PLACES 0 to n - 1 (n 2 to 8)");
        for (int n = 2; n <= 8; n++) {
            int places = n;
            GrainYard x = new GrainYard();
            checks.due("yard(" + n + ")", 0, () -> x.yard(places));
            checks.due("degree of its last place", 0, () -> x.degree(0, places - 1));
            checks.dueThrow("degree of one more", Checks.NO_SUCH, () -> x.degree(0, places));
            checks.dueThrow("degree of one below 0", Checks.NO_SUCH, () -> x.degree(0, -1));
            checks.dueThrow("path to one more", Checks.NO_SUCH, () -> x.path(0, 0, places, 1));
        }
        GrainYard x = new GrainYard();
        for (int n : new int[] {1, 0, -1, -2, -8, 9, 10, 16, Integer.MIN_VALUE, Integer.MAX_VALUE}) {
            checks.due("yard(" + n + ")", -1, () -> x.yard(n));
            checks.due("count(0) after yard(" + n + ")", 0, () -> x.count(0));
        }
        checks.due("yard(2) after the refused", 0, () -> x.yard(2));
    }

    private void noneToThreePaths() {
        checks.chapter("between each two of them 0 to 3 PATHS (0 at first)");
        for (int n = 0; n <= 3; n++) {
            int paths = n;
            GrainYard x = made(8);
            for (int a = 0; a < 8; a++) {
                for (int b = a + 1; b < 8; b++) {
                    int one = a;
                    int other = b;
                    checks.due("path(0, " + a + ", " + b + ", " + n + ")", 0, () -> x.path(0, one, other, paths));
                    checks.due("path(0, " + b + ", " + a + ", 3)", paths, () -> x.path(0, other, one, 3));
                    checks.due("path(0, " + a + ", " + b + ", 4)", -1, () -> x.path(0, one, other, 4));
                    checks.due("path(0, " + a + ", " + b + ", -1)", -1, () -> x.path(0, one, other, -1));
                    checks.due("path(0, " + b + ", " + a + ", 0)", 3, () -> x.path(0, other, one, 0));
                }
            }
            for (int a = 0; a < 8; a++) {
                int one = a;
                checks.due("degree(0, " + a + ") of none", 0, () -> x.degree(0, one));
            }
        }
    }

    private void placeNoughtIsTheHole() {
        checks.chapter("PLACE 0 is THE HOLE");
        GrainYard x = made(2, 0, 1, 1);
        x.heap(0);
        for (int i = 1; i <= 5; i++) {
            int lost = i;
            checks.due("drop(0, 1)", 1, () -> x.drop(0, 1));
            checks.due("grains(0, 0), more than its degree", lost, () -> x.grains(0, 0));
            checks.due("is(0, 0)", true, () -> x.is(0, 0));
        }
        checks.dueThrow("topple(0, 0)", Checks.NO_SUCH, () -> x.topple(0, 0));
        checks.due("settle(0)", 0, () -> x.settle(0));
        checks.due("grains(0, 0) stays", 5, () -> x.grains(0, 0));
    }

    private void degreeOfAPlace() {
        checks.chapter("DEGREE of a PLACE: how many PATHS end there");
        GrainYard x = made(8);
        for (int other = 1; other < 8; other++) {
            int at = other;
            for (int n = 1; n <= 3; n++) {
                int want = 3 * (other - 1) + n;
                x.path(0, 0, other, n);
                checks.due("degree(0, 0)", want, () -> x.degree(0, 0));
            }
            checks.due("degree(0, " + other + ")", 3, () -> x.degree(0, at));
        }
        checks.due("degree(0, 0), the most", 21, () -> x.degree(0, 0));
        for (int other = 1; other < 8; other++) {
            x.path(0, other, 0, 0);
        }
        checks.due("degree(0, 0), the least", 0, () -> x.degree(0, 0));
    }

    private void wholeByAPath() {
        checks.chapter("WHOLE, if by PATHS each PLACE can be come to");
        for (int n = 2; n <= 8; n++) {
            for (int apart = 1; apart < n; apart++) {
                int alone = apart;
                GrainYard x = made(n);
                for (int place = 1; place < n; place++) {
                    if (place != alone) {
                        x.path(0, 0, place, 3);
                    }
                }
                String name = "whole(0) of " + n + " but for " + alone;
                checks.due(name, false, () -> x.whole(0));
                checks.due("trees(0) of " + n + " but for " + alone, 0, () -> x.trees(0));
                checks.dueThrow("part(0, -1) of " + n + " but for " + alone, Checks.BAD_STATE, () -> x.part(0, -1));
                checks.due("heap(0) of " + n + " but for " + alone, -1, () -> x.heap(0));
                // The place left out is joined by way of another one, where there is another.
                x.path(0, alone, n == 2 ? 0 : alone % (n - 1) + 1, 1);
                checks.due(name + ", now joined", true, () -> x.whole(0));
                checks.due("heap(0), now joined", 0, () -> x.heap(0));
            }
        }
    }

    private void wholeOnlyFromTheHole() {
        checks.chapter("come to from THE HOLE");
        for (int n = 2; n <= 8; n++) {
            GrainYard x = everyTwo(n, 3);
            for (int place = 1; place < n; place++) {
                x.path(0, 0, place, 0);
            }
            checks.due("whole(0) of " + n + " with nothing at the hole", false, () -> x.whole(0));
            x.path(0, n - 1, 0, 1);
            checks.due("whole(0) of " + n + " with one path to it", true, () -> x.whole(0));
        }
    }

    private void atMostTwentyHeaps() {
        checks.chapter("HEAPS, numbered from 0 on, at most 20, each in a YARD");
        GrainYard x = made(2, 0, 1, 1);
        lay(x, x.yard(3), 0, 1, 1, 1, 2, 1);
        lay(x, x.yard(2), 0, 1, 1);
        for (int i = 0; i < 20; i++) {
            int number = i;
            checks.dueThrow("grains(" + i + ", 0) ahead of it", Checks.NO_SUCH, () -> x.grains(number, 0));
            checks.due("heap(" + i % 2 + "), number " + i, number, () -> x.heap(number % 2));
            checks.due("count(1)", number + 1, () -> x.count(1));
        }
        for (int yard = 0; yard < 3; yard++) {
            int in = yard;
            checks.due("a 21st heap(" + yard + ")", -1, () -> x.heap(in));
        }
        checks.due("count(1)", 20, () -> x.count(1));
        checks.dueThrow("grains(20, 0)", Checks.NO_SUCH, () -> x.grains(20, 0));
        checks.dueThrow("grains(18, 2) in a yard of 2", Checks.NO_SUCH, () -> x.grains(18, 2));
        checks.due("set(19, 2, 100000) of the twentieth", 0, () -> x.set(19, 2, 100000));
        checks.due("grains(17, 2)", 0, () -> x.grains(17, 2));
        checks.due("path(2, 0, 1, 3) where the heap was refused", 1, () -> x.path(2, 0, 1, 3));
    }

    private void grainsWhenTheyAreSet() {
        checks.chapter("GRAINS at each PLACE but THE HOLE (0 to 100,000 when they are set)");
        GrainYard x = ring3();
        x.heap(0);
        checks.due("set(0, 1, 0)", 0, () -> x.set(0, 1, 0));
        checks.due("set(0, 1, 100000)", 0, () -> x.set(0, 1, 100000));
        checks.dueThrow("set(0, 1, 100001)", Checks.BAD_ARGUMENT, () -> x.set(0, 1, 100001));
        checks.dueThrow("set(0, 1, -1)", Checks.BAD_ARGUMENT, () -> x.set(0, 1, -1));
        checks.due("grains(0, 1) stays", 100000, () -> x.grains(0, 1));
        x.set(0, 2, 2);
        checks.due("topple(0, 2)", true, () -> x.topple(0, 2));
        checks.due("grains(0, 1), more than can be set", 100001, () -> x.grains(0, 1));
        checks.due("set(0, 1, 1) of more than can be set", 100001, () -> x.set(0, 1, 1));
    }

    private void noneAtFirst() {
        checks.chapter("0 at first), and LOST ones (0 at first)");
        for (int n = 2; n <= 8; n++) {
            GrainYard x = everyTwo(n, 1);
            x.heap(0);
            x.become(0, 1);
            x.drop(0, n - 1);
            checks.due("a second heap", 1, () -> x.heap(0));
            for (int place = 0; place < n; place++) {
                int at = place;
                checks.due("grains(1, " + place + ") of " + n, 0, () -> x.grains(1, at));
                checks.due("toppled(1, " + place + ") of " + n, 0, () -> x.toppled(1, at));
            }
        }
    }

    private void yardWithAHeapStays() {
        checks.chapter("A YARD in which there is a HEAP stays as it is");
        GrainYard x = ring3();
        lay(x, x.yard(3), 0, 1, 1, 1, 2, 1, 2, 0, 1);
        x.heap(0);
        for (int n = -1; n <= 4; n++) {
            int paths = n;
            checks.due("path(0, 0, 1, " + n + ")", -1, () -> x.path(0, 0, 1, paths));
            checks.due("path(0, 2, 1, " + n + ")", -1, () -> x.path(0, 2, 1, paths));
        }
        for (int place = 0; place < 3; place++) {
            int at = place;
            checks.due("degree(0, " + place + ")", 2, () -> x.degree(0, at));
        }
        checks.due("whole(0)", true, () -> x.whole(0));
        checks.due("trees(0)", 3, () -> x.trees(0));
        checks.due("path(1, 0, 1, 3) without a heap", 1, () -> x.path(1, 0, 1, 3));
        checks.due("trees(1)", 7, () -> x.trees(1));
    }

    /** Place 1 has so many paths, as many as may be to 0, then to 2 and on; each other place has one to the hole. */
    private static GrainYard ofDegree(int degree) {
        GrainYard x = made(8);
        for (int place = 2; place < 8; place++) {
            x.path(0, 0, place, 1);
        }
        int rest = degree;
        for (int place = 0; rest > 0; place += place == 0 ? 2 : 1) {
            x.path(0, 1, place, Math.min(3, rest));
            rest -= Math.min(3, rest);
        }
        x.heap(0);
        return x;
    }

    private void atLeastDegreeTopples() {
        checks.chapter("A PLACE (not THE HOLE) that has at least DEGREE GRAINS may TOPPLE");
        for (int degree = 1; degree <= 21; degree++) {
            int enough = degree;
            GrainYard x = ofDegree(degree);
            checks.due("degree(0, 1)", enough, () -> x.degree(0, 1));
            x.set(0, 1, enough - 1);
            checks.due("is(0, 0) of one too few for " + degree, true, () -> x.is(0, 0));
            checks.due("topple(0, 1) of one too few for " + degree, false, () -> x.topple(0, 1));
            checks.due("settle(0) of one too few for " + degree, 0, () -> x.settle(0));
            checks.due("grains(0, 1) stays", enough - 1, () -> x.grains(0, 1));
            x.set(0, 1, enough);
            checks.due("is(0, 0) of just enough for " + degree, false, () -> x.is(0, 0));
            checks.due("topple(0, 1) of just enough for " + degree, true, () -> x.topple(0, 1));
            checks.due("grains(0, 1)", 0, () -> x.grains(0, 1));
            checks.due("topple(0, 1) of none", false, () -> x.topple(0, 1));
            x.become(0, 0);
            x.set(0, 1, enough + 1);
            checks.due("topple(0, 1) of one more than " + degree, true, () -> x.topple(0, 1));
            checks.due("grains(0, 1), one more", 1, () -> x.grains(0, 1));
        }
    }

    private void toppleAlongEachPath() {
        checks.chapter("DEGREE less, each other PLACE as many more as there are PATHS between; to THE HOLE are LOST");
        GrainYard x = made(6, 3, 0, 3, 3, 1, 2, 3, 2, 1, 3, 4, 0, 3, 5, 3, 4, 1, 1);
        x.heap(0);
        put(x, 0, 1, 1, 20, 1, 1);
        checks.due("topple(0, 3)", true, () -> x.topple(0, 3));
        checks.due("row", "3 2 11 1 4", () -> row(x, 0, 6));
        checks.due("grains(0, 0)", 3, () -> x.grains(0, 0));
        checks.due("topple(0, 3)", true, () -> x.topple(0, 3));
        checks.due("row", "5 3 2 1 7", () -> row(x, 0, 6));
        checks.due("grains(0, 0)", 6, () -> x.grains(0, 0));
        checks.due("topple(0, 3)", false, () -> x.topple(0, 3));
        checks.due("topple(0, 4) of one that isn't at the hole", true, () -> x.topple(0, 4));
        checks.due("row", "6 3 2 0 7", () -> row(x, 0, 6));
        checks.due("grains(0, 0) stays", 6, () -> x.grains(0, 0));
    }

    private void stillUpToTheFullest() {
        checks.chapter("A HEAP is STILL, if no PLACE may TOPPLE");
        for (int n = 2; n <= 8; n++) {
            GrainYard x = everyTwo(n, 2);
            x.heap(0);
            checks.due("is(0, 0) of none", true, () -> x.is(0, 0));
            x.become(0, 1);
            checks.due("is(0, 0) of the fullest of " + n, true, () -> x.is(0, 0));
            int degree = 2 * (n - 1);
            for (int place = 1; place < n; place++) {
                x.set(0, place, degree);
                checks.due("is(0, 0) with one more at " + place + " of " + n, false, () -> x.is(0, 0));
                checks.due("is(0, 1) with one more at " + place + " of " + n, false, () -> x.is(0, 1));
                x.set(0, place, degree - 1);
            }
        }
    }

    private static long[] toppleByHand(GrainYard x, int places, int[] order) {
        long[] times = new long[places];
        boolean moved = true;
        while (moved) {
            moved = false;
            for (int i = 0; i < order.length && !moved; i++) {
                moved = x.topple(0, order[i]);
                times[order[i]] += moved ? 1 : 0;
            }
        }
        return times;
    }

    private void theSameInWhateverOrder() {
        checks.chapter("the end, and how often each TOPPLES, is the same in whatever order");
        int[][] orders = {{1, 2, 3}, {3, 2, 1}, {2, 1, 3}, {2, 3, 1}, {1, 3, 2}, {3, 1, 2}};
        int[][] heaps = {{7, 8, 9}, {0, 0, 12}, {3, 3, 3}, {2, 2, 3}, {2, 2, 2}, {11, 0, 0}};
        for (int[] grains : heaps) {
            GrainYard x = ring4();
            x.heap(0);
            put(x, 0, grains);
            x.settle(0);
            long[] want = {0, x.toppled(0, 1), x.toppled(0, 2), x.toppled(0, 3)};
            for (int[] order : orders) {
                GrainYard y = ring4();
                y.heap(0);
                put(y, 0, grains);
                String name = " of " + Arrays.toString(grains) + " by " + Arrays.toString(order);
                checks.due("how often" + name, Arrays.toString(want), () -> Arrays.toString(toppleByHand(y, 4, order)));
                checks.due("row" + name, row(x, 0, 4), () -> row(y, 0, 4));
                checks.due("lost" + name, x.grains(0, 0), () -> y.grains(0, 0));
            }
        }
    }

    private void kindBelowNothingOnTheWay() {
        checks.chapter("(GRAINS that may be below 0 on the way being allowed)");
        GrainYard x = ring3();
        x.heap(0);
        x.heap(0);
        // Neither place of 1 1 may topple; but each once, and all are gone.
        put(x, 0, 1, 1);
        checks.due("topple(0, 1)", false, () -> x.topple(0, 1));
        checks.due("topple(0, 2)", false, () -> x.topple(0, 2));
        checks.due("alike(0, 1)", true, () -> x.alike(0, 1));
        checks.due("alike(1, 0)", true, () -> x.alike(1, 0));
        put(x, 0, 0, 1);
        checks.due("alike(0, 1) of 0 1 and none", false, () -> x.alike(0, 1));
        GrainYard line = line8();
        line.heap(0);
        line.heap(0);
        put(line, 0, 0, 0, 0, 0, 0, 0, 1);
        checks.due("alike(0, 1) where all are of one kind", true, () -> line.alike(0, 1));
    }

    private void kindByUndoing() {
        checks.chapter("by TOPPLINGS, or such undone, of any PLACES but THE HOLE");
        int[][] fellings = {{1, 0, 0}, {0, 1, 0}, {0, 0, 1}, {2, 0, 3}, {5, 4, 3}, {30000, 0, 0}, {20000, 20000, 20000}};
        for (int[] times : fellings) {
            GrainYard x = ring4();
            x.heap(0);
            x.heap(0);
            int[] low = new int[3];
            // What the fellings add or take, with as many more in both heaps that none is below 0.
            low[0] = 3 * times[0] - times[1];
            low[1] = 3 * times[1] - times[0] - 2 * times[2];
            low[2] = 3 * times[2] - 2 * times[1];
            for (int i = 0; i < 3; i++) {
                x.set(0, i + 1, Math.max(0, low[i]));
                x.set(1, i + 1, Math.max(0, -low[i]));
            }
            String name = " with " + Arrays.toString(times) + " between";
            checks.due("alike(0, 1)" + name, true, () -> x.alike(0, 1));
            checks.due("alike(1, 0)" + name, true, () -> x.alike(1, 0));
            x.drop(0, 1);
            checks.due("alike(0, 1) and a grain" + name, false, () -> x.alike(0, 1));
        }
    }

    private void kindOneGrainApart() {
        checks.chapter("OF ONE KIND, if one becomes the other");
        // In a ring of 8 a grain at place k is k grains at place 1, and 8 of these are none.
        for (int more = 0; more <= 16; more++) {
            GrainYard x = ring8();
            x.heap(0);
            x.heap(0);
            x.set(0, 1, 99984 + more);
            x.set(1, 1, 99984);
            int apart = more;
            checks.due("alike(0, 1), " + more + " apart", apart % 8 == 0, () -> x.alike(0, 1));
            x.set(1, 1, 0);
            checks.due("alike(0, 1), " + more + " more than 99984", apart % 8 == 0, () -> x.alike(0, 1));
        }
    }

    private static GrainYard ring8() {
        return made(8, 0, 1, 1, 1, 2, 1, 2, 3, 1, 3, 4, 1, 4, 5, 1, 5, 6, 1, 6, 7, 1, 7, 0, 1);
    }

    private void theHoleBurnsFirst() {
        checks.chapter("BURNING of a HEAP that is STILL: THE HOLE burns in round 0");
        GrainYard x = ring3();
        x.heap(0);
        checks.due("burns(0, 0) of none", 0, () -> x.burns(0, 0));
        x.become(0, 1);
        checks.due("burns(0, 0) of the fullest", 0, () -> x.burns(0, 0));
        x.set(0, 2, 2);
        checks.due("burns(0, 0) of what isn't still", -1, () -> x.burns(0, 0));
        checks.due("burns(0, 1) of what isn't still", -1, () -> x.burns(0, 1));
        x.set(0, 2, 1);
        checks.due("burns(0, 0), still again", 0, () -> x.burns(0, 0));
        checks.due("burns(0, 1), still again", 1, () -> x.burns(0, 1));
    }

    private void atLeastAsManyBurns() {
        checks.chapter("at least as many GRAINS as DEGREE less the PATHS to those that burn already");
        // Degrees are 3; to the hole go 2 of place 1, none of place 2, 1 of place 3.
        String[] told = {
            "0 0 0: 0 -1 -1 -1", "1 0 0: 0 1 -1 -1", "0 0 1: 0 -1 -1 -1", "0 0 2: 0 -1 -1 1", "0 2 0: 0 -1 -1 -1",
            "1 1 0: 0 1 -1 -1", "1 2 0: 0 1 2 3", "1 2 1: 0 1 2 3", "1 2 2: 0 1 2 1", "1 0 1: 0 1 -1 -1",
            "1 0 2: 0 1 2 1", "2 0 2: 0 1 2 1", "0 1 2: 0 3 2 1", "0 0 2: 0 -1 -1 1", "0 2 1: 0 -1 -1 -1"
        };
        for (String line : told) {
            GrainYard x = ring4();
            x.heap(0);
            put(x, 0, line.charAt(0) - '0', line.charAt(2) - '0', line.charAt(4) - '0');
            checks.due("rounds of " + line.substring(0, 5), line.substring(7), () -> burning(x, 0, 4));
            checks.due("is(0, 1) of " + line.substring(0, 5), line.indexOf('-') < 0, () -> x.is(0, 1));
        }
    }

    private void allAtOnceBurn() {
        checks.chapter("in each round .. all at once");
        String[] told = {"1 1: 0 1 1", "1 0: 0 1 2", "0 1: 0 2 1", "0 0: 0 -1 -1"};
        for (String line : told) {
            GrainYard x = ring3();
            x.heap(0);
            put(x, 0, line.charAt(0) - '0', line.charAt(2) - '0');
            checks.due("rounds of " + line.substring(0, 3), line.substring(5), () -> burning(x, 0, 3));
        }
        // From the hole on the line goes down by the places' numbers: each round is one place's.
        GrainYard down = made(8, 0, 7, 1, 7, 6, 1, 6, 5, 1, 5, 4, 1, 4, 3, 1, 3, 2, 1, 2, 1, 1);
        down.heap(0);
        down.become(0, 1);
        checks.due("rounds of a line, downward", "0 7 6 5 4 3 2 1", () -> burning(down, 0, 8));
        GrainYard up = line8();
        up.heap(0);
        up.become(0, 1);
        checks.due("rounds of a line, upward", "0 1 2 3 4 5 6 7", () -> burning(up, 0, 8));
        up.set(0, 4, 0);
        checks.due("rounds of a line with one empty", "0 1 2 3 -1 -1 -1 -1", () -> burning(up, 0, 8));
    }

    private void comesAgainOnlyIfStill() {
        checks.chapter("A HEAP COMES AGAIN, if it is STILL and all burn");
        GrainYard x = ring3();
        x.heap(0);
        put(x, 0, 2, 1);
        checks.due("is(0, 1) of 2 1, that isn't still", false, () -> x.is(0, 1));
        put(x, 0, 1, 100000);
        checks.due("is(0, 1) of 1 100000, that isn't still", false, () -> x.is(0, 1));
        put(x, 0, 1, 1);
        checks.due("is(0, 1) of 1 1", true, () -> x.is(0, 1));
        put(x, 0, 0, 0);
        checks.due("is(0, 1) of none, that doesn't burn", false, () -> x.is(0, 1));
        GrainYard two = made(2, 0, 1, 1);
        two.heap(0);
        checks.due("is(0, 1) of none, all of whose paths are to the hole", true, () -> two.is(0, 1));
        two.set(0, 1, 1);
        checks.due("is(0, 1) of one grain too many", false, () -> two.is(0, 1));
    }

    private static GrainYard ring4With(int code, int other) {
        GrainYard x = ring4();
        x.heap(0);
        x.heap(0);
        put(x, 0, code % 3, code / 3 % 3, code / 9);
        put(x, 1, other % 3, other / 3 % 3, other / 9);
        return x;
    }

    private void ofEachKindJustOne() {
        checks.chapter("Of each KIND just one HEAP (of GRAINS) COMES AGAIN");
        List<Integer> first = new ArrayList<>();
        int[] again = new int[27];
        for (int code = 0; code < 27; code++) {
            int kind = 0;
            while (kind < first.size() && !ring4With(code, first.get(kind)).alike(0, 1)) {
                kind++;
            }
            if (kind == first.size()) {
                first.add(code);
            }
            again[kind] += ring4With(code, 0).is(0, 1) ? 1 : 0;
        }
        checks.due("kinds, as many as trees", 12, () -> first.size());
        for (int kind = 0; kind < first.size(); kind++) {
            int of = kind;
            checks.due("how many of kind " + kind + " come again", 1, () -> again[of]);
        }
    }

    private void theFullest() {
        checks.chapter("THE FULLEST: one GRAIN less than DEGREE everywhere");
        GrainYard two = made(2, 0, 1, 1);
        two.heap(0);
        two.become(0, 1);
        checks.due("row of degree 1", "0", () -> row(two, 0, 2));
        GrainYard most = everyTwo(8, 3);
        most.heap(0);
        most.become(0, 1);
        checks.due("row of degree 21", "20 20 20 20 20 20 20", () -> row(most, 0, 8));
        checks.due("is(0, 1)", true, () -> most.is(0, 1));
        GrainYard line = line8();
        line.heap(0);
        line.become(0, 1);
        checks.due("row of a line", "1 1 1 1 1 1 0", () -> row(line, 0, 8));
    }

    private void nothing() {
        checks.chapter("NOTHING: the one that COMES AGAIN of the KIND of no GRAINS");
        for (int n = 1; n <= 3; n++) {
            GrainYard x = made(2, 0, 1, n);
            x.heap(0);
            x.set(0, 1, 100000);
            x.become(0, 2);
            checks.due("row of " + n + " paths, where no grains come again", "0", () -> row(x, 0, 2));
        }
        GrainYard ring = ring3();
        ring.heap(0);
        ring.heap(0);
        ring.become(0, 2);
        checks.due("row of a ring of 3", "1 1", () -> row(ring, 0, 3));
        checks.due("alike(0, 1) with no grains", true, () -> ring.alike(0, 1));
        GrainYard line = line8();
        line.heap(0);
        line.become(0, 2);
        checks.due("row of a line, the only one that comes again", "1 1 1 1 1 1 0", () -> row(line, 0, 8));
    }

    private void sumWithNothing() {
        checks.chapter("SUM of two HEAPS: GRAINS added, and SETTLED");
        for (int code = 0; code < 27; code++) {
            GrainYard x = ring4With(code, 0);
            String before = row(x, 0, 4);
            boolean again = x.is(0, 1);
            x.add(0, 1);
            checks.due("the sum of " + before + " and no grains", before, () -> row(x, 0, 4));
            x.become(1, 2);
            x.add(0, 1);
            checks.due("the sum of " + before + " and nothing comes again", true, () -> x.is(0, 1));
            checks.due("the sum of " + before + " and nothing is it", again, () -> row(x, 0, 4).equals(before));
        }
        GrainYard x = made(2, 0, 1, 3);
        x.heap(0);
        x.heap(0);
        x.set(0, 1, 1);
        x.set(1, 1, 1);
        checks.due("add(0, 1), one too few to topple", 0, () -> x.add(0, 1));
        checks.due("add(0, 1), just enough", 1, () -> x.add(0, 1));
        checks.due("row", "0", () -> row(x, 0, 2));
    }

    private void opposite() {
        checks.chapter("OPPOSITE of a HEAP: the one that COMES AGAIN with which its SUM is of the KIND of no GRAINS");
        int[][] told = {{0, 0}, {1, 2}, {2, 1}, {3, 0}, {4, 2}, {99999, 0}, {100000, 2}};
        for (int[] pair : told) {
            GrainYard x = made(2, 0, 1, 3);
            x.heap(0);
            x.set(0, 1, pair[0]);
            x.become(0, 3);
            checks.due("opposite of " + pair[0] + " of 3", pair[1], () -> x.grains(0, 1));
        }
        GrainYard x = ring4();
        x.heap(0);
        x.heap(0);
        x.heap(0);
        x.become(0, 3);
        x.become(1, 2);
        checks.due("opposite of no grains is nothing", row(x, 1, 4), () -> row(x, 0, 4));
        x.become(0, 3);
        checks.due("opposite of nothing is nothing", row(x, 1, 4), () -> row(x, 0, 4));
        put(x, 0, 100000, 99999, 3);
        put(x, 2, 100000, 99999, 3);
        x.become(0, 3);
        x.become(0, 3);
        x.become(2, 4);
        checks.due("opposite of the opposite", row(x, 2, 4), () -> row(x, 0, 4));
    }

    private void orderFromOneOn() {
        checks.chapter("ORDER of a HEAP: the least number from 1 on");
        GrainYard one = line8();
        one.heap(0);
        checks.due("order(0) of none", 1, () -> one.order(0));
        put(one, 0, 100000, 1, 0, 99999, 7, 0, 100000);
        checks.due("order(0) where all are of one kind", 1, () -> one.order(0));
        GrainYard two = made(2, 0, 1, 3);
        two.heap(0);
        int[][] told = {{0, 1}, {1, 3}, {2, 3}, {3, 1}, {4, 3}, {99999, 1}, {100000, 3}};
        for (int[] pair : told) {
            two.set(0, 1, pair[0]);
            checks.due("order(0) of " + pair[0] + " of 3", pair[1], () -> two.order(0));
        }
        GrainYard ring = ring8();
        ring.heap(0);
        int[] orders = {1, 8, 4, 8, 2, 8, 4, 8};
        for (int place = 1; place < 8; place++) {
            ring.become(0, 0);
            ring.set(0, place, 1);
            int want = orders[place];
            checks.due("order(0) of a grain at " + place + " of 8", want, () -> ring.order(0));
            ring.set(0, place, want);
            checks.due("order(0) of so many", 1, () -> ring.order(0));
        }
        ring.become(0, 2);
        checks.due("order(0) of nothing", 1, () -> ring.order(0));
    }

    private void orderUpToTheTrees() {
        checks.chapter("times that it must be taken to be of the KIND of no GRAINS");
        // Each two places by 3, but for a few by 2: all kinds are the rounds of one grain.
        GrainYard x = everyTwo(8, 3);
        lay(x, 0, 0, 7, 2, 1, 2, 2, 2, 3, 2, 3, 5, 2, 4, 5, 2, 6, 7, 2);
        x.heap(0);
        long trees = 337334445L;
        checks.due("trees(0)", trees, () -> x.trees(0));
        checks.due("part(0, -1)", 1, () -> x.part(0, -1));
        checks.due("part(0, 0)", trees, () -> x.part(0, 0));
        x.set(0, 1, 1);
        checks.due("order(0) of one grain", trees, () -> x.order(0));
        // 3 divides the trees, 2 doesn't.
        x.set(0, 1, 2);
        checks.due("order(0) of two grains", trees, () -> x.order(0));
        x.set(0, 1, 3);
        checks.due("order(0) of three grains", trees / 3, () -> x.order(0));
        x.heap(0);
        checks.due("taken so often it is none", true, () -> takenIsNone(x, trees / 3));
        checks.due("taken once less it isn't", false, () -> takenIsNone(x, trees / 3 - 1));
    }

    private void kindAndOrderOfTheMostGrains() {
        checks.chapter("GRAINS .. 100,000 when they are set: OF ONE KIND and ORDER");
        int[] fewer = {0, 7, 2, 1, 2, 2, 2, 3, 2, 3, 5, 2, 4, 5, 2, 6, 7, 2};
        GrainYard x = everyTwo(8, 3);
        lay(x, 0, fewer);
        PlainYard plain = new PlainYard();
        plain.yard(8);
        for (int a = 0; a < 8; a++) {
            for (int b = a + 1; b < 8; b++) {
                plain.path(0, a, b, 3);
            }
        }
        for (int i = 0; i < fewer.length; i += 3) {
            plain.path(0, fewer[i], fewer[i + 1], fewer[i + 2]);
        }
        for (int heap = 0; heap < 3; heap++) {
            x.heap(0);
            plain.heap(0);
        }
        for (int place = 1; place < 8; place++) {
            int at = place;
            x.set(0, place, 100000);
            plain.set(0, place, 100000);
            checks.due("order(0) of the most at 1 to " + place, plain.order(0), () -> x.order(0));
            x.become(1, 0);
            x.add(1, 0);
            checks.due("alike(0, 1) of it and it settled", true, () -> x.alike(0, 1));
            checks.due("alike(1, 0) of it settled and it", true, () -> x.alike(1, 0));
            checks.due("alike(0, 2) of it and none", plain.alike(0, 2), () -> x.alike(0, 2));
            x.drop(1, at);
            checks.due("alike(0, 1) of it and one more", false, () -> x.alike(0, 1));
            checks.due("alike(1, 0) of one more and it", false, () -> x.alike(1, 0));
        }
    }

    /** Adds up heap 0, taken so many times, in heap 1, by doubling: whether that is of the kind of a new heap. */
    private static boolean takenIsNone(GrainYard x, long times) {
        int none = x.heap(0);
        x.become(1, 0);
        for (long bit = Long.highestOneBit(times); bit > 0; bit >>= 1) {
            x.add(1, 1);
            if ((times & bit) != 0) {
                x.add(1, 0);
            }
        }
        return x.alike(1, none);
    }

    private void treeOfTheFirstAndLastPath() {
        checks.chapter("one of the PATHS to it (numbered from 0 on)");
        for (int n = 1; n <= 3; n++) {
            GrainYard x = made(2, 0, 1, n);
            x.heap(0);
            for (int j = 0; j < n; j++) {
                int path = j;
                x.set(0, 1, j);
                checks.due("tree(0, 1, 0) of " + j + " of " + n, 0, () -> x.tree(0, 1, 0));
                checks.due("tree(0, 1, 1) of " + j + " of " + n, path, () -> x.tree(0, 1, 1));
            }
            x.set(0, 1, n);
            checks.dueThrow("tree(0, 1, 0) of " + n + " of " + n, Checks.BAD_STATE, () -> x.tree(0, 1, 0));
        }
    }

    private void treeByThePlacesInOrder() {
        checks.chapter("by the PLACES in their order, those of each by number, are counted from 0 on: the j-th one is v's");
        // Place 4 has paths to 1, 2 and 3 alone, that burn in round 1 when they are fullest.
        int[] paths = {0, 1, 3, 0, 2, 3, 0, 3, 3, 4, 1, 2, 4, 2, 1, 4, 3, 3};
        String[] told = {"1 0", "1 1", "2 0", "3 0", "3 1", "3 2"};
        for (int j = 0; j < told.length; j++) {
            GrainYard x = made(5, paths);
            x.heap(0);
            x.become(0, 1);
            x.set(0, 4, j);
            String want = told[j];
            checks.due("burns(0, 4) of " + j, 2, () -> x.burns(0, 4));
            checks.due("tree of place 4 of " + j, want, () -> x.tree(0, 4, 0) + " " + x.tree(0, 4, 1));
            checks.due("tree of place 1, the last path", "0 2", () -> x.tree(0, 1, 0) + " " + x.tree(0, 1, 1));
            x.become(0, 0);
            long tree = code(0, 2, 0, 2, 0, 2, want.charAt(0) - '0', want.charAt(2) - '0');
            int grains = j;
            checks.due("grow of it", true, () -> x.grow(0, tree));
            checks.due("row grown", "4 3 5 " + grains, () -> row(x, 0, 5));
        }
        GrainYard x = made(5, paths);
        x.heap(0);
        // Place 1 doesn't burn by the hole: so it isn't counted among those of the round ahead of place 4's.
        put(x, 0, 1, 3, 5, 2);
        checks.due("rounds with place 1 behind", "0 3 1 1 2", () -> burning(x, 0, 5));
        checks.due("tree of place 4", "2 0", () -> x.tree(0, 4, 0) + " " + x.tree(0, 4, 1));
        checks.due("tree of place 1", "4 1", () -> x.tree(0, 1, 0) + " " + x.tree(0, 1, 1));
        x.set(0, 4, 5);
        checks.due("tree of place 4, the last path", "3 2", () -> x.tree(0, 4, 0) + " " + x.tree(0, 4, 1));
        x.set(0, 1, 0);
        checks.due("tree of place 1, the first path", "4 0", () -> x.tree(0, 1, 0) + " " + x.tree(0, 1, 1));
    }

    private void treeOfTheRoundJustAhead() {
        checks.chapter("PATHS to those that burn in round r - 1");
        String[] told = {"1 2 0: 0 0 1 0 2 0", "1 2 1: 0 0 1 0 2 1", "1 2 2: 0 0 3 1 0 0", "2 0 2: 0 1 1 0 0 0",
            "0 1 2: 2 0 3 0 0 0", "0 2 2: 2 0 3 1 0 0", "2 2 2: 0 1 3 1 0 0", "2 1 2: 0 1 3 0 0 0"};
        for (String line : told) {
            GrainYard x = ring4();
            x.heap(0);
            put(x, 0, line.charAt(0) - '0', line.charAt(2) - '0', line.charAt(4) - '0');
            StringBuilder tree = new StringBuilder();
            for (int place = 1; place < 4; place++) {
                tree.append(x.tree(0, place, 0)).append(' ').append(x.tree(0, place, 1)).append(' ');
            }
            checks.due("tree of " + line.substring(0, 5), line.substring(7), () -> tree.toString().trim());
        }
    }

    private void asManyAsTrees() {
        checks.chapter("(So there are as many HEAPS that COME AGAIN as TREES.)");
        for (int n = 1; n <= 3; n++) {
            int paths = n;
            int degree = 2 * n;
            Set<String> trees = new HashSet<>();
            for (int code = 0; code < degree * degree; code++) {
                GrainYard x = everyTwo(3, n);
                x.heap(0);
                put(x, 0, code % degree, code / degree);
                if (!x.is(0, 1)) {
                    continue;
                }
                String before = row(x, 0, 3);
                long tree = code(x.tree(0, 1, 0), x.tree(0, 1, 1), x.tree(0, 2, 0), x.tree(0, 2, 1));
                trees.add(Long.toString(tree));
                x.become(0, 0);
                checks.due("grow(0, " + tree + ")", true, () -> x.grow(0, tree));
                checks.due("row of " + before + " grown again", before, () -> row(x, 0, 3));
            }
            checks.due("trees of heaps by " + n, 3 * paths * paths, () -> trees.size());
            checks.due("trees(0) by " + n, 3 * paths * paths, () -> everyTwo(3, paths).trees(0));
        }
    }

    private void partsThatAreOneAreNone() {
        checks.chapter("and none is 1. (.. none if there is one TREE.)");
        for (int n = 2; n <= 8; n++) {
            GrainYard x = made(n);
            for (int place = 1; place < n; place++) {
                x.path(0, place - 1, place, 1);
            }
            checks.due("trees(0) of a line of " + n, 1, () -> x.trees(0));
            checks.due("part(0, -1) of a line of " + n, 0, () -> x.part(0, -1));
            checks.dueThrow("part(0, 0) of a line of " + n, Checks.NO_SUCH, () -> x.part(0, 0));
            x.path(0, n - 1, n - 2, 2);
            checks.due("part(0, -1) with a second path", 1, () -> x.part(0, -1));
            checks.due("part(0, 0) with a second path", 2, () -> x.part(0, 0));
            checks.dueThrow("part(0, 1) with a second path", Checks.NO_SUCH, () -> x.part(0, 1));
        }
    }

    private void eachPartDividesTheNext() {
        checks.chapter("each PART divides the next one .. (d1 d2 .. are TREES together)");
        // The parts of a line are those of rounds of 1, 2 and 3.
        for (int code = 0; code < 2187; code++) {
            GrainYard x = made(8);
            int rest = code;
            int twos = 0;
            int threes = 0;
            for (int place = 1; place < 8; place++) {
                x.path(0, place - 1, place, rest % 3 + 1);
                twos += rest % 3 == 1 ? 1 : 0;
                threes += rest % 3 == 2 ? 1 : 0;
                rest /= 3;
            }
            int count = Math.max(twos, threes);
            checks.due("part(0, -1) of line " + code, count, () -> x.part(0, -1));
            long all = 1;
            for (int i = 0; i < count; i++) {
                int at = i;
                int want = (i >= count - twos ? 2 : 1) * (i >= count - threes ? 3 : 1);
                checks.due("part(0, " + i + ") of line " + code, want, () -> x.part(0, at));
                all *= x.part(0, i);
            }
            long together = all;
            checks.due("trees(0) of line " + code, together, () -> x.trees(0));
            checks.dueThrow("part(0, " + count + ") of line " + code, Checks.NO_SUCH, () -> x.part(0, count));
        }
        GrainYard most = everyTwo(8, 3);
        checks.due("part(0, 6), the seventh", 24, () -> most.part(0, 6));
        checks.dueThrow("part(0, 7), an eighth", Checks.NO_SUCH, () -> most.part(0, 7));
    }
}
