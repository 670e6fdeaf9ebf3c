/** Promises 11 to 14: bound, told, scaled, covers. */
public final class BoundTest {
    private static final int BAD = PotentialBench.BAD;
    private static final int NO = PotentialBench.NO;
    private static final int FULL = PotentialBench.FULL;

    public static void main(String[] args) {
        eachKind();
        leastFirst();
        fractions();
        none();
        severalFunctions();
        largeNumbers();
        limits();
        wrongInputs();
        latestBound();
        coversEdges();
        Check.end("BoundTest");
    }

    private static void eachKind() {
        PotentialBench x = Check.bench(0, 0);
        found(x, 0, 3, 1, 0);
        x = Check.bench(2, 1, 1);
        found(x, 0, 5, 3, 0, 0, 0);
        x = Check.bench(0, 4, 1000, 4, 0, 4, 7, 0);
        found(x, 0, 3, 1, 1007);
        x = Check.bench(1, 3, 0, 4, 2, 0, 4, 5, 0);
        // 2 besides, and 3 more of the element or besides: the element less
        found(x, 0, 6, 5, 0, 5);
        x = Check.bench(1, 3, 0, 4, 5, 0, 4, 2, 0);
        found(x, 0, 6, 5, 0, 5);
        // each element is paid for, and the variable too that is looked at twice
        x = Check.bench(1, 3, 0, 0, 4, 3, 5, 0, 1);
        found(x, 0, 7, 8, 3, 0);
        Check.function(x, 1, 6, 5, 0, 0, 5, 0, 0);
        found(x, 1, 13, 16, 6, 0);
        // what the empty branch needs of the variable that is looked at is not counted
        Check.function(x, 1, 3, 0, 5, 0, 0, 0);
        found(x, 2, 20, 24, 0, 0);
        // of another variable the branch that needs more counts
        Check.function(x, 2, 3, 0, 5, 0, 1, 5, 1, 1);
        found(x, 3, 30, 38, 0, 6, 0);
        x.cut(3, 0);
        Check.words(x, 3, 3, 0, 5, 1, 1, 5, 0, 1);
        found(x, 3, 30, 38, 0, 6, 0);
        // of the variable that is looked at, what is needed of its rest and of itself
        x.cut(2, 0);
        Check.words(x, 2, 3, 0, 0, 6, 5, 0, 1, 5, 1, 0);
        found(x, 2, 31, 41, 9, 0);
        // what a variable has to bring when it is given
        x.cut(2, 0);
        Check.words(x, 2, 1, 0);
        x.cut(3, 0);
        Check.words(x, 3, 6, 5, 2, 1, 5, 0, 2);
        found(x, 3, 24, 27, 0, 3, 0);
        // the parts of "then" have variables of the same number
        x.cut(3, 0);
        Check.words(x, 3, 6, 6, 1, 0, 1, 2, 5, 0, 2);
        found(x, 3, 23, 24, 3, 0, 0);
        x.cut(3, 0);
        Check.words(x, 3, 6, 6, 1, 0, 6, 5, 0, 2, 0, 5, 1, 2);
        found(x, 3, 24, 27, 3, 0, 0);
        x.cut(3, 0);
        Check.words(x, 3, 6, 6, 1, 0, 6, 5, 0, 2, 1, 1, 5, 1, 2);
        found(x, 3, 24, 27, 3, 6, 0);
    }

    private static void leastFirst() {
        // 7 for one element, or besides: the least q(f, 0), and then p
        found(Check.bench(1, 3, 0, 0, 4, 7, 0), 0, 6, 5, 0, 7);
        // half of it for each of two elements is a lesser sum than all besides
        found(Check.bench(1, 3, 0, 0, 3, 1, 0, 4, 6, 0), 0, 8, 8, 3, 0);
        // pairs: the least q(f, 0), so q(f, 1)
        found(Check.bench(2, 3, 0, 0, 3, 1, 0, 4, 5, 5, 0, 2, 3), 0, 12, 16, 0, 5, 0);
        found(Check.bench(3, 3, 0, 0, 3, 2, 0, 4, 5, 5, 0, 3, 1, 4), 0, 15, 21, 0, 0, 5, 0);
        found(Check.bench(3, 3, 2, 0, 3, 1, 0, 4, 5, 5, 0, 0, 4, 3), 0, 15, 21, 0, 0, 5, 0);
        // the sum comes before q(f, 0): one element of the first list for two of the second
        PotentialBench x = Check.bench(2, 3, 0, 0, 3, 1, 0, 3, 3, 0, 4, 6, 5, 0, 2, 4);
        Check.due("sum first, bound", x.bound(0), 1);
        Check.due("sum first, q(f, 0)", x.scaled(0, 0), 0);
        Check.due("sum first, q(f, 1)", x.scaled(1, 0), 3);
        Check.due("sum first, p", x.scaled(3, 0), 0);
        x = Check.bench(2, 3, 1, 0, 3, 0, 0, 3, 3, 0, 4, 6, 5, 0, 4, 2);
        Check.due("sum first, bound", x.bound(0), 1);
        Check.due("sum first, q(f, 0)", x.scaled(0, 0), 3);
        Check.due("sum first, q(f, 1)", x.scaled(1, 0), 0);
        Check.due("sum first, p", x.scaled(3, 0), 0);
    }

    private static void fractions() {
        PotentialBench x = Check.bench(1, 3, 0, 0, 3, 1, 0, 4, 1, 5, 0, 2);
        Check.due("a half, bound", x.bound(0), 1);
        for (int k = 0; k <= 40; k++) {
            Check.due("a half, scaled " + k, x.scaled(0, k), k == 0 ? 0 : 1L << k - 1);
            Check.due("a half, p " + k, x.scaled(3, k), 0);
        }
        Check.due("a half, covers", x.covers(1, 0, 0, 1), 0);
        Check.due("a half, covers", x.covers(2, 0, 0, 1), 1);
        Check.due("a half, covers", x.covers(3, 0, 0, 2), 0);
        Check.due("a half, covers", x.covers(2147483647, 0, 0, 1073741824), 0);
        Check.due("a half, covers", x.covers(2147483647, 0, 0, 1073741823), 1);
        x = Check.bench(1, 3, 0, 0, 3, 1, 0, 3, 2, 0, 4, 1, 5, 0, 3);
        Check.due("a third, bound", x.bound(0), 1);
        for (int k = 0; k <= 40; k++) {
            Check.due("a third, scaled " + k, x.scaled(0, k), (1L << k) / 3);
        }
        x.cut(0, 9);
        Check.words(x, 0, 4, 1000, 5, 0, 3);
        Check.due("1000 thirds, bound", x.bound(0), 1);
        for (int k = 0; k <= 40; k++) {
            Check.due("1000 thirds, scaled " + k, x.scaled(0, k), (1000L << k) / 3);
        }
        Check.due("1000 thirds, covers", x.covers(1, 9, 9, 333), 1);
        Check.due("1000 thirds, covers", x.covers(1, 9, 9, 334), 0);
        Check.due("1000 thirds, covers", x.covers(3, 9, 9, 1000), 1);
        Check.due("1000 thirds, covers", x.covers(3, 9, 9, 1001), 0);
        // as deep as it goes: 14 elements are taken off
        x = new PotentialBench();
        x.function(1);
        for (int i = 0; i < 14; i++) {
            Check.words(x, 0, 3, i, 0);
        }
        Check.words(x, 0, 4, 1, 5, 0, 14);
        Check.due("a fourteenth, bound", x.bound(0), 1);
        Check.due("a fourteenth, unknowns", x.told(0), 33);
        Check.due("a fourteenth, conditions", x.told(1), 47);
        Check.due("a fourteenth, q", x.scaled(0, 40), (1L << 40) / 14);
        Check.due("a fourteenth, p", x.scaled(3, 40), 0);
        x.cut(0, 42);
        Check.words(x, 0, 3, 14, 0, 1, 15);
        found(x, 0, 34, 47, 0, 0);
    }

    private static void none() {
        PotentialBench x = Check.bench(1, 4, 1, 5, 0, 0);
        Bounds.none(x, 0, 5, 5);
        // the same without cost has bounds
        found(Check.bench(1, 4, 0, 5, 0, 0), 0, 5, 5, 0, 0);
        // a square: a list is gone through again for each of its elements
        x = Check.bench(1, 3, 0, 0, 4, 1, 5, 0, 1);
        Check.function(x, 1, 3, 0, 0, 6, 5, 0, 1, 5, 1, 1);
        Bounds.none(x, 1, 15, 19);
        // there are no bounds of one function where another has none
        Bounds.none(x, 0, 15, 19);
        x.cut(1, 3);
        x.word(1, 0);
        Check.due("all have bounds now", x.bound(0), 1);
    }

    private static void severalFunctions() {
        // a copy has to bring what is paid for its elements
        PotentialBench x = Check.bench(1, 3, 0, 0, 2, 5, 0, 1);
        Check.function(x, 1, 3, 0, 0, 4, 3, 5, 1, 1);
        Check.function(x, 1, 6, 5, 0, 0, 5, 1, 1);
        found(x, 2, 20, 24, 3, 0);
        found(x, 1, 20, 24, 3, 0);
        found(x, 0, 20, 24, 3, 0);
        // two elements more than that
        Check.function(x, 1, 6, 2, 2, 5, 0, 0, 4, 1, 5, 1, 1);
        found(x, 3, 26, 32, 3, 7);
        // what is left of one call pays for what comes after it
        x = Check.bench(0, 4, 8, 0);
        Check.function(x, 0, 6, 5, 0, 4, 2, 5, 0);
        found(x, 1, 8, 8, 18);
        found(x, 0, 8, 8, 8);
        // what comes after a call that never gives anything is not paid, but what it needs itself is
        x = Check.bench(0, 5, 0);
        Check.function(x, 0, 6, 5, 0, 4, 9, 0);
        found(x, 1, 8, 8, 0);
        x.cut(1, 0);
        Check.words(x, 1, 4, 5, 5, 0);
        Check.function(x, 0, 5, 1);
        found(x, 2, 12, 12, 5);
        // a list that is handed over twice brings both
        x = Check.bench(3, 3, 0, 3, 1, 0, 4, 3, 5, 0, 0, 3, 2, 4, 5, 5, 0, 3, 1, 2);
        found(x, 0, 16, 24, 5, 3, 0, 0);
        Check.function(x, 2, 5, 0, 1, 1, 0);
        found(x, 1, 22, 30, 0, 8, 0);
        x.cut(1, 0);
        Check.words(x, 1, 5, 0, 0, 0, 0);
        found(x, 1, 22, 30, 8, 0, 0);
    }

    private static void largeNumbers() {
        PotentialBench x = tower();
        Check.due("tower, bound", x.bound(3), 1);
        Check.due("tower, unknowns", x.told(0), 31);
        Check.due("tower, conditions", x.told(1), 41);
        for (int k = 0; k <= 40; k++) {
            Check.due("tower, scaled " + k, x.scaled(0, k), 17303000L << k);
        }
        Check.due("tower, lowest 64 bits", x.scaled(0, 40), 525784L << 40);
        int most = Integer.MAX_VALUE;
        Check.due("tower, covers", x.covers(most, 0, 0, 17303000L * most), 1);
        Check.due("tower, covers", x.covers(most, most, most, 17303000L * most + 1), 0);
        x = Towers.tall();
        Check.due("tall tower, bound", x.bound(3), 1);
        Check.due("tall tower, unknowns", x.told(0), 40);
        Check.due("tall tower, conditions", x.told(1), 68);
        long q = 14000L * 92 * 92 * 92;
        for (int k = 0; k <= 40; k++) {
            Check.due("tall tower, scaled " + k, x.scaled(0, k), q << k);
        }
        Check.due("tall tower, covers", x.covers(1, 0, 0, q), 1);
        Check.due("tall tower, covers", x.covers(1, 0, 0, q + 1), 0);
        Check.due("tall tower, covers the most", x.covers(most, 0, 0, Long.MAX_VALUE), 1);
        Check.due("tall tower, covers the least", x.covers(most, 0, 0, Long.MIN_VALUE), 1);
        Check.due("tall tower, not the most", x.covers(most / 4, 0, 0, Long.MAX_VALUE), 0);
    }

    /** Functions of which each calls the one before with 11 elements for each of its own. */
    private static PotentialBench tower() {
        PotentialBench x = Check.bench(1, 3, 0, 0);
        for (int i = 0; i < 13; i++) {
            Check.words(x, 0, 4, 1000);
        }
        Check.words(x, 0, 5, 0, 1);
        for (int f = 1; f <= 3; f++) {
            Check.function(x, 1, 3, 0, 0, 6, 2, 2, 2, 2, 2, 2, 2, 2, 2, 2, 2, 0, 6, 5, f - 1, 2, 5, f, 1);
        }
        return x;
    }

    private static void limits() {
        // 24 unknowns and 16 conditions, and 2 and 3 more for each of 8 branches
        PotentialBench x = new PotentialBench();
        for (int f = 0; f < 4; f++) {
            x.function(3);
        }
        for (int i = 0; i < 8; i++) {
            Check.words(x, 0, 3, 0, 0);
        }
        for (int f = 0; f < 4; f++) {
            x.word(f, 0);
        }
        found(x, 0, 40, 40, 0, 0, 0, 0);
        x.cut(0, 24);
        Check.words(x, 0, 5, 0, 0, 0, 0);
        Bounds.full(x, 0);
        x.cut(0, 24);
        Check.words(x, 0, 3, 0, 0, 0);
        Bounds.full(x, 0);
        x.cut(0, 18);
        x.word(0, 0);
        found(x, 0, 36, 34, 0, 0, 0, 0);
        x.cut(1, 0);
        Check.words(x, 1, 3, 0, 1, 1, 0);
        found(x, 0, 39, 39, 0, 0, 0, 0);
        x.cut(2, 0);
        Check.words(x, 2, 5, 2, 0, 0, 0);
        found(x, 0, 40, 42, 0, 0, 0, 0);
        x.cut(1, 0);
        Check.words(x, 1, 3, 0, 1, 1, 1, 2);
        Bounds.full(x, 0);

        // 28 calls are 84 conditions
        calls(3, 1, 14, 14, 38, 90);
        calls(3, 2, 14, 14, 39, FULL);
        calls(3, 1, 14, 15, 39, FULL);
        calls(2, 0, 13, 14, 35, 85);
        // too many of both, and much more than that
        x = new PotentialBench();
        for (int f = 0; f < 4; f++) {
            x.function(3);
            for (int i = 0; i < 15; i++) {
                Check.words(x, f, 3, i, 5, 3, 0, 1, 2);
            }
            x.word(f, 0);
        }
        Bounds.full(x, 0);
    }

    private static void calls(int takes, int takesToo, int count, int countToo, int unknowns, int conditions) {
        PotentialBench x = new PotentialBench();
        x.function(takes);
        x.function(takesToo);
        for (int i = count + countToo; i > 0; i--) {
            int f = i > countToo ? 0 : 1;
            if (i != countToo + 1 && i != 1) {
                x.word(f, 6);
            }
            Check.words(x, f, 5, 1);
            for (int k = 0; k < takesToo; k++) {
                x.word(f, 0);
            }
        }
        if (conditions == FULL) {
            Bounds.full(x, 0);
        } else {
            Check.due("calls, bound", x.bound(1), 1);
            Check.due("calls, unknowns", x.told(0), unknowns);
            Check.due("calls, conditions", x.told(1), conditions);
        }
    }

    private static void wrongInputs() {
        PotentialBench x = Check.bench(2, 4, 6, 0);
        Check.due("no such function", x.bound(1), BAD);
        Check.due("no such function", x.bound(-1), BAD);
        Check.due("no such function", x.bound(Integer.MAX_VALUE), BAD);
        found(x, 0, 5, 3, 0, 0, 6);
        int[] notTold = {-1, 2, 3, Integer.MIN_VALUE, Integer.MAX_VALUE};
        for (int what : notTold) {
            Check.due("told(" + what + ")", x.told(what), NO);
        }
        int[] notList = {-1, 2, 4, 5, Integer.MIN_VALUE, Integer.MAX_VALUE};
        for (int i : notList) {
            Check.due("scaled(" + i + ", 0)", x.scaled(i, 0), NO);
        }
        int[] notPower = {-1, 41, 64, Integer.MIN_VALUE, Integer.MAX_VALUE};
        for (int k : notPower) {
            Check.due("scaled(3, " + k + ")", x.scaled(3, k), NO);
            Check.due("scaled(0, " + k + ")", x.scaled(0, k), NO);
        }
        Check.due("scaled(3, 40)", x.scaled(3, 40), 6L << 40);
    }

    private static void latestBound() {
        PotentialBench x = Check.bench(1, 3, 0, 0, 4, 3, 5, 0, 1);
        Check.function(x, 0, 4, 6, 0);
        found(x, 0, 10, 9, 3, 0);
        found(x, 1, 10, 9, 6);
        Check.due("of the latest bound, q", x.scaled(0, 0), NO);
        Check.due("of the latest bound, covers", x.covers(9, 0, 0, 7), 0);
        found(x, 0, 10, 9, 3, 0);
        // what happens to the bodies does not change what was found
        x.cut(0, 0);
        x.function(3);
        Check.due("stays, unknowns", x.told(0), 10);
        Check.due("stays, q", x.scaled(0, 0), 3);
        Check.due("stays, covers", x.covers(2, 0, 0, 6), 1);
        Check.due("a run is no bound", x.run(1, 0, 0, 0), BAD);
        Check.due("stays, conditions", x.told(1), 9);
        Check.due("BAD", x.bound(0), BAD);
        Bounds.nothing(x, "after BAD");
        Check.words(x, 0, 3, 0, 0, 4, 3, 5, 0, 1);
        x.word(2, 0);
        found(x, 0, 16, 13, 3, 0);
        Check.due("no such function", x.bound(3), BAD);
        Bounds.nothing(x, "after no such function");
        found(x, 0, 16, 13, 3, 0);
        x.cut(1, 2);
        Check.words(x, 1, 5, 1);
        Bounds.none(x, 0, 17, 16);
        x.cut(1, 2);
        x.word(1, 0);
        found(x, 0, 16, 13, 3, 0);
        x.cut(2, 0);
        for (int i = 0; i < 12; i++) {
            Check.words(x, 2, 3, 0, 0);
        }
        x.word(2, 0);
        found(x, 0, 40, 49, 3, 0);
        x.cut(1, 2);
        Check.words(x, 1, 5, 1);
        Bounds.full(x, 0);
    }

    private static void coversEdges() {
        PotentialBench x = Check.bench(3, 3, 0, 3, 1, 4, 9, 0, 4, 3, 5, 0, 0, 3, 2, 4, 5, 5, 0, 3, 1, 2);
        found(x, 0, 16, 24, 5, 3, 0, 9);
        Check.due("covers", x.covers(2, 4, 8, 31), 1);
        Check.due("covers", x.covers(2, 4, 8, 32), 0);
        Check.due("covers nothing", x.covers(0, 0, 0, 9), 1);
        Check.due("covers nothing", x.covers(0, 0, 0, 10), 0);
        Check.due("covers below 0", x.covers(0, 0, 0, -1), 1);
        Check.due("covers the least", x.covers(0, 0, 0, Long.MIN_VALUE), 1);
        Check.due("covers the most", x.covers(5, 5, 5, Long.MAX_VALUE), 0);
        Check.due("covers long lists", x.covers(Integer.MAX_VALUE, 1, 0, 5L * Integer.MAX_VALUE + 12), 1);
        Check.due("covers long lists", x.covers(Integer.MAX_VALUE, 1, 0, 5L * Integer.MAX_VALUE + 13), 0);
        negativeLengths(x);
        x = Check.bench(0, 4, 9, 0);
        found(x, 0, 3, 1, 9);
        Check.due("lists that it does not take bring nothing", x.covers(5, 5, 5, 9), 1);
        Check.due("lists that it does not take bring nothing", x.covers(5, 5, 5, 10), 0);
        negativeLengths(x);
        x = Check.bench(3, 3, 0, 0, 3, 2, 0, 4, 5, 5, 0, 3, 1, 4);
        found(x, 0, 15, 21, 0, 0, 5, 0);
        Check.due("covers with the third list", x.covers(9, 9, 2, 10), 1);
        Check.due("covers with the third list", x.covers(9, 9, 2, 11), 0);
        negativeLengths(x);
    }

    private static void negativeLengths(PotentialBench x) {
        Check.due("a length below 0", x.covers(-1, 0, 0, 0), NO);
        Check.due("a length below 0", x.covers(0, -1, 0, 0), NO);
        Check.due("a length below 0", x.covers(0, 0, -1, 0), NO);
        Check.due("a length below 0", x.covers(0, 0, Integer.MIN_VALUE, -5), NO);
        Check.due("no length below 0", x.covers(0, 0, 0, 0), 1);
    }

    /** The q of each list, and p. */
    private static void found(PotentialBench x, int f, int unknowns, int conditions, long... best) {
        String name = unknowns + " and " + conditions + ", ";
        Check.due(name + "bound", x.bound(f), 1);
        Check.due(name + "unknowns", x.told(0), unknowns);
        Check.due(name + "conditions", x.told(1), conditions);
        for (int i = 0; i < 3; i++) {
            Check.due(name + "q(f, " + i + ")", x.scaled(i, 0), i < best.length - 1 ? best[i] : NO);
            Check.due(name + "q(f, " + i + ") * 2^20", x.scaled(i, 20), i < best.length - 1 ? best[i] << 20 : NO);
        }
        Check.due(name + "p(f)", x.scaled(3, 0), best[best.length - 1]);
        Check.due(name + "p(f) * 2^40", x.scaled(3, 40), best[best.length - 1] << 40);
    }
}
