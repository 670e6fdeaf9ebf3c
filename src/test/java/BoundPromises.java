import java.math.BigInteger;

/** Promises 11 to 14, sentence by sentence: bound, told, scaled, covers. */
final class BoundPromises {
    private static final int BAD = PotentialBench.BAD;
    private static final int NO = PotentialBench.NO;
    private static final int FULL = PotentialBench.FULL;
    private static final int LEAST = Integer.MIN_VALUE;
    private static final int MOST = Integer.MAX_VALUE;

    private BoundPromises() {
    }

    static void all() {
        bound();
        boundThatIsBad();
        boundThatIsFull();
        told();
        notTold();
        scaled();
        powers();
        lowestBits();
        notScaled();
        covers();
        coversLong();
        coversNone();
    }

    /** Two functions with bounds: 3 for each element, and 6 besides. */
    private static PotentialBench bounded() {
        PotentialBench x = Check.bench(1, 3, 0, 0, 4, 3, 5, 0, 1);
        Check.function(x, 2, 4, 6, 0);
        return x;
    }

    private static final int[] ENDLESS = {4, 1, 5, 1, 0, 0};

    /** A body for function 1 of those, with which there are too many unknowns. */
    private static int[] tooMuch() {
        return Bodies.of(Bodies.times(15, 3, 0, 0), 0);
    }

    private static void bound() {
        Check.says("The BEST bounds of function f are looked for: 1 they are found,");
        PotentialBench x = bounded();
        Bounds.best(x, 0, 3, 0);
        Bounds.best(x, 1, 0, 0, 6);
        Bounds.best(x, 0, 3, 0);
        // the bodies of now
        Check.body(x, 1, 4, 7, 0);
        Bounds.best(x, 1, 0, 0, 7);
        // and all functions of now
        Check.function(x, 0, 0);
        Bounds.best(x, 1, 0, 0, 7);
        Bounds.told(x, 15, 12);
        Check.says("0 there are none.");
        x = bounded();
        Check.body(x, 1, ENDLESS);
        Bounds.none(x, 1, 13, 14);
        Bounds.none(x, 0, 13, 14);
        Check.body(x, 1, 0);
        Bounds.best(x, 0, 3, 0);
    }

    private static void boundThatIsBad() {
        Check.says("BAD as for run();");
        for (int count = 0; count <= 4; count++) {
            PotentialBench x = new PotentialBench();
            for (int f = 0; f < count; f++) {
                Check.function(x, 0, 4, f, 0);
            }
            int[] none = {LEAST, -1, count, 4, MOST};
            for (int f : none) {
                Check.due("bound " + f + " of " + count, x.bound(f), BAD);
                Bounds.nothing(x, "BAD");
            }
            for (int f = 0; f < count; f++) {
                Bounds.best(x, f, f);
            }
        }
        PotentialBench x = bounded();
        x.word(1, 0);
        Check.due("the other is wrong", x.bound(0), BAD);
        Check.due("it is wrong", x.bound(1), BAD);
        Bounds.nothing(x, "BAD");
        x.cut(1, 3);
        Bounds.best(x, 1, 0, 0, 6);
        x.function(0);
        Check.due("one without a body", x.bound(0), BAD);
        Bounds.nothing(x, "BAD");
        Check.due("look", x.look(), -3);
    }

    private static void boundThatIsFull() {
        Check.says("FULL when there are too many unknowns or conditions.");
        PotentialBench x = bounded();
        Bounds.best(x, 0, 3, 0);
        Check.body(x, 1, tooMuch());
        Bounds.full(x, 0);
        Bounds.full(x, 1);
        Check.due("BAD also where it would be FULL", x.bound(2), BAD);
        Check.due("BAD also where it would be FULL", x.bound(-1), BAD);
        Check.run(x, "it can be run", x.run(0, 2, 0, 0), 6, 0, 8);
        Check.body(x, 1, 4, 6, 0);
        Bounds.best(x, 0, 3, 0);
        // too many conditions alone: 8 unknowns and 4 conditions, and 1 and 3 for each of 29 calls
        x = Check.bench(2, Bodies.joined(14, 5, 1));
        Check.function(x, 0, Bodies.joined(14, 5, 1));
        Check.due("28 calls", x.bound(0), 1);
        Bounds.told(x, 36, 88);
        Check.body(x, 1, Bodies.joined(15, 5, 1));
        Bounds.full(x, 0);
        Bounds.full(x, 1);
    }

    private static void told() {
        Check.says("Of the latest bound(): how many unknowns (what = 0)");
        PotentialBench x = bounded();
        Check.due("bound", x.bound(0), 1);
        Check.due("told(0)", x.told(0), 12);
        Check.due("told(0) again", x.told(0), 12);
        Check.says("and conditions (1: each \"at least\" above, for all functions) there were;");
        Check.due("told(1)", x.told(1), 11);
        Check.due("of the other, bound", x.bound(1), 1);
        Bounds.told(x, 12, 11);
        // of the latest one, not of what the bodies are now
        Check.body(x, 1, ENDLESS);
        Bounds.told(x, 12, 11);
        Check.due("none, bound", x.bound(0), 0);
        Bounds.told(x, 13, 14);
        x.function(3);
        x.look();
        x.run(0, 0, 0, 0);
        Bounds.told(x, 13, 14);
    }

    private static void notTold() {
        Check.says("NO when it was BAD or FULL,");
        PotentialBench x = bounded();
        Check.due("found", x.bound(0), 1);
        Check.due("BAD", x.bound(2), BAD);
        Bounds.nothing(x, "BAD after found");
        Check.due("found", x.bound(1), 1);
        Bounds.told(x, 12, 11);
        Check.body(x, 1, tooMuch());
        Check.due("FULL", x.bound(0), FULL);
        Bounds.nothing(x, "FULL after found");
        Check.body(x, 1, ENDLESS);
        Check.due("none", x.bound(0), 0);
        Bounds.told(x, 13, 14);
        x.cut(1, 1);
        Check.due("BAD", x.bound(0), BAD);
        Bounds.nothing(x, "BAD after none");
        Check.says("or there was none.");
        x = bounded();
        Bounds.nothing(x, "before");
        x.look();
        x.run(0, 3, 0, 0);
        Bounds.nothing(x, "look and run are no bound()");
        Check.due("found", x.bound(0), 1);
        int[] other = {LEAST, -1, 2, 3, MOST};
        for (int what : other) {
            Check.due("nothing else is told: " + what, x.told(what), NO);
        }
        Bounds.told(x, 12, 11);
    }

    private static void scaled() {
        Check.says("The BEST q(f, i) of it (i as a list), or p(f) (i = 3),");
        // 1 for each element of the first list, 10 of the second, 100 of the third, and 1000 besides
        PotentialBench x = weighing();
        Check.due("bound", x.bound(0), 1);
        Check.due("q(f, 0)", x.scaled(0, 0), 1);
        Check.due("q(f, 1)", x.scaled(1, 0), 10);
        Check.due("q(f, 2)", x.scaled(2, 0), 100);
        Check.due("p(f)", x.scaled(3, 0), 1000);
        // of the latest bound(), whatever comes between
        x.cut(0, 0);
        x.look();
        x.function(1);
        Check.due("q(f, 2)", x.scaled(2, 0), 100);
        Check.due("p(f)", x.scaled(3, 0), 1000);
    }

    private static PotentialBench weighing() {
        return Check.bench(3, 3, 0, 3, 1, 3, 2, 4, 1000, 0, 4, 100, 5, 0, 0, 1, 3, 4, 10, 5, 0, 0, 3, 2,
            4, 1, 5, 0, 3, 1, 2);
    }

    private static void powers() {
        Check.says("times 2^k (k = 0 .. 40),");
        PotentialBench x = weighing();
        Check.due("bound", x.bound(0), 1);
        for (int k = 0; k <= 40; k++) {
            Check.due("q(f, 2) * 2^" + k, x.scaled(2, k), 100L << k);
            Check.due("p(f) * 2^" + k, x.scaled(3, k), 1000L << k);
        }
        Check.due("no such power", x.scaled(3, 41), NO);
        Check.due("no such power", x.scaled(3, -1), NO);
        Check.says("rounded down,");
        // 1000 for three elements
        x = Check.bench(1, 3, 0, 0, 3, 1, 0, 3, 2, 0, 4, 1000, 5, 0, 3);
        Check.due("bound", x.bound(0), 1);
        for (int k = 0; k <= 40; k++) {
            Check.due("1000/3 * 2^" + k, x.scaled(0, k), (1000L << k) / 3);
            Check.due("0 * 2^" + k, x.scaled(3, k), 0);
        }
        // 1 for 14 elements: less than 1
        int[] body = new int[0];
        for (int i = 0; i < 14; i++) {
            body = Bodies.of(body, 3, i, 0);
        }
        x = Check.bench(1, Bodies.of(body, 4, 1, 5, 0, 14));
        Check.due("bound", x.bound(0), 1);
        for (int k = 0; k <= 40; k++) {
            Check.due("1/14 * 2^" + k, x.scaled(0, k), (1L << k) / 14);
        }
    }

    private static void lowestBits() {
        Check.says("as a long of its lowest 64 bits;");
        PotentialBench x = Towers.ofThree();
        Check.due("bound", x.bound(3), 1);
        Bounds.told(x, 40, 62);
        // 14000 for each of 4 * 23 * 2 * 23 * 2 * 20 elements, for three of its own
        BigInteger paid = BigInteger.valueOf(14000L * 4 * 23 * 2 * 23 * 2 * 20);
        boolean isBelow = false;
        for (int k = 0; k <= 40; k++) {
            BigInteger due = paid.shiftLeft(k).divide(BigInteger.valueOf(3));
            isBelow |= due.longValue() < 0;
            Check.due("q(f, 0) * 2^" + k, x.scaled(0, k), due.longValue());
        }
        Check.due("some are below 0 as a long", isBelow, true);
        Check.due("the last has more than 64 bits", paid.shiftLeft(40).divide(BigInteger.valueOf(3)).bitLength(), 70);
        Check.due("p(f) * 2^40", x.scaled(3, 40), 0);
        // a whole number with more than 64 bits
        Check.due("bound", x.bound(2), 1);
        long q = 14000L * 4 * 23 * 2 * 23;
        Check.due("q * 2^40", x.scaled(0, 40), q << 40);
    }

    private static void notScaled() {
        Check.says("NO when there is none such.");
        int[] powers = {LEAST, -64, -1, 41, 64, MOST};
        for (int takes = 0; takes <= 3; takes++) {
            PotentialBench x = Check.bench(takes, 4, 6, 0);
            for (int i = -1; i <= 4; i++) {
                Check.due("before, scaled " + i, x.scaled(i, 0), NO);
            }
            Check.due("bound", x.bound(0), 1);
            int[] parts = {LEAST, -1, 0, 1, 2, 3, 4, 5, MOST};
            for (int i : parts) {
                long due = i == 3 ? 6 : i >= 0 && i < takes ? 0 : NO;
                Check.due("of " + takes + " lists, scaled " + i, x.scaled(i, 0), due);
                for (int k : powers) {
                    Check.due("of " + takes + " lists, scaled " + i + " " + k, x.scaled(i, k), NO);
                }
            }
            Check.due("all is as it was", x.scaled(3, 1), 12);
        }
        // a list that another function takes
        PotentialBench x = bounded();
        Bounds.best(x, 1, 0, 0, 6);
        Bounds.best(x, 0, 3, 0);
        Check.body(x, 1, ENDLESS);
        Bounds.none(x, 0, 13, 14);
    }

    private static void covers() {
        Check.says("Whether length times q and so on, and p, of the latest BEST bounds together are at least n: 1 or 0;");
        PotentialBench x = weighing();
        Check.due("bound", x.bound(0), 1);
        int[][] lengths = {{0, 0, 0}, {1, 0, 0}, {0, 1, 0}, {0, 0, 1}, {2, 3, 4}, {3000, 3000, 3000}};
        for (int[] l : lengths) {
            long n = l[0] + 10L * l[1] + 100L * l[2] + 1000;
            Check.due("one less", x.covers(l[0], l[1], l[2], n - 1), 1);
            Check.due("just that", x.covers(l[0], l[1], l[2], n), 1);
            Check.due("one more", x.covers(l[0], l[1], l[2], n + 1), 0);
        }
        Check.due("n is 0", x.covers(0, 0, 0, 0), 1);
        Check.due("n is below 0", x.covers(0, 0, 0, -1), 1);
        // lists that it does not take bring nothing
        x = bounded();
        Check.due("bound", x.bound(0), 1);
        Check.due("two elements", x.covers(2, 0, 0, 6), 1);
        Check.due("two elements", x.covers(2, MOST, MOST, 7), 0);
        // 1000/3 for each element: neither rounded up nor down
        x = Check.bench(1, 3, 0, 0, 3, 1, 0, 3, 2, 0, 4, 1000, 5, 0, 3);
        Check.due("bound", x.bound(0), 1);
        long[] most = {0, 333, 666, 1000, 1333, 1666, 2000};
        for (int a = 0; a < most.length; a++) {
            Check.due("thirds", x.covers(a, 0, 0, most[a]), 1);
            Check.due("thirds", x.covers(a, 0, 0, most[a] + 1), 0);
        }
    }

    private static void coversLong() {
        PotentialBench x = weighing();
        Check.due("bound", x.bound(0), 1);
        long n = 111L * MOST + 1000;
        Check.due("longest lists", x.covers(MOST, MOST, MOST, n), 1);
        Check.due("longest lists", x.covers(MOST, MOST, MOST, n + 1), 0);
        Check.due("the most", x.covers(MOST, MOST, MOST, Long.MAX_VALUE), 0);
        Check.due("the least", x.covers(0, 0, 0, Long.MIN_VALUE), 1);
        // more than a long
        x = Towers.tall();
        Check.due("bound", x.bound(3), 1);
        long q = 14000L * 92 * 92 * 92;
        int length = (int) (Long.MAX_VALUE / q);
        Check.due("the most", x.covers(length, 0, 0, Long.MAX_VALUE), 0);
        Check.due("all that it is", x.covers(length, 0, 0, length * q), 1);
        Check.due("one more", x.covers(length, 0, 0, length * q + 1), 0);
        Check.due("one element more", x.covers(length + 1, 0, 0, Long.MAX_VALUE), 1);
        Check.due("the longest list", x.covers(MOST, 0, 0, Long.MAX_VALUE), 1);
        Check.due("the least", x.covers(MOST, 0, 0, Long.MIN_VALUE), 1);
    }

    private static void coversNone() {
        Check.says("NO when there are none,");
        PotentialBench x = bounded();
        Check.due("before", x.covers(0, 0, 0, 0), NO);
        Check.due("found", x.bound(0), 1);
        Check.due("found", x.covers(0, 0, 0, 0), 1);
        Check.due("BAD", x.bound(7), BAD);
        Bounds.noBest(x, "BAD");
        Check.due("found", x.bound(1), 1);
        Check.due("found", x.covers(0, 0, 0, 6), 1);
        Check.body(x, 1, ENDLESS);
        Check.due("of the latest", x.covers(0, 0, 0, 6), 1);
        Bounds.none(x, 1, 13, 14);
        Check.body(x, 1, 0);
        Check.due("found", x.bound(1), 1);
        Check.body(x, 1, tooMuch());
        Check.due("FULL", x.bound(1), FULL);
        Bounds.noBest(x, "FULL");
        Check.says("or a length is below 0 (also of a list that it does not take).");
        for (int takes = 0; takes <= 3; takes++) {
            x = Check.bench(takes, 4, 6, 0);
            Check.due("bound", x.bound(0), 1);
            int[] below = {-1, -2, LEAST};
            for (int length : below) {
                Check.due(takes + " lists, a", x.covers(length, 0, 0, 0), NO);
                Check.due(takes + " lists, b", x.covers(0, length, 0, 0), NO);
                Check.due(takes + " lists, c", x.covers(0, 0, length, 0), NO);
                Check.due(takes + " lists, all", x.covers(length, length, length, -9), NO);
            }
            Check.due(takes + " lists, none below", x.covers(0, 0, 0, 6), 1);
            Check.due(takes + " lists, none below", x.covers(0, 0, 0, 7), 0);
        }
    }
}
