import java.util.Arrays;

/** Looks whether bounds, and what is told of them, are as due. */
final class Bounds {
    private static final int NO = PotentialBench.NO;
    private static final int FULL = PotentialBench.FULL;

    private Bounds() {
    }

    /** The best q of each list, and p. */
    static void best(PotentialBench x, int f, long... best) {
        String name = "bounds of " + f + ", ";
        Check.due(name + "bound", x.bound(f), 1);
        for (int i = 0; i < 3; i++) {
            Check.due(name + "q(f, " + i + ")", x.scaled(i, 0), i < best.length - 1 ? best[i] : NO);
            Check.due(name + "q(f, " + i + ") * 2^20", x.scaled(i, 20), i < best.length - 1 ? best[i] << 20 : NO);
        }
        Check.due(name + "p(f)", x.scaled(3, 0), best[best.length - 1]);
        Check.due(name + "p(f) * 2^40", x.scaled(3, 40), best[best.length - 1] << 40);
    }

    static void told(PotentialBench x, int unknowns, int conditions) {
        Check.due("unknowns", x.told(0), unknowns);
        Check.due("conditions", x.told(1), conditions);
    }

    /** How many unknowns and conditions one function with this body makes. */
    static void made(int unknowns, int conditions, int takes, int... body) {
        PotentialBench x = Check.bench(takes, body);
        String name = Arrays.toString(body);
        Check.due(name + " look", x.look(), 0);
        int answer = x.bound(0);
        Check.due(name + " bound", answer == 0 || answer == 1, true);
        Check.due(name + " unknowns", x.told(0), unknowns);
        Check.due(name + " conditions", x.told(1), conditions);
    }

    /** There are conditions, but no numbers for which they hold. */
    static void none(PotentialBench x, int f, int unknowns, int conditions) {
        Check.due("bound", x.bound(f), 0);
        told(x, unknowns, conditions);
        noBest(x, "none found");
    }

    static void full(PotentialBench x, int f) {
        Check.due("look", x.look(), 0);
        Check.due("bound", x.bound(f), FULL);
        nothing(x, "FULL");
    }

    /** Nothing is told of a bound that was refused. */
    static void nothing(PotentialBench x, String name) {
        Check.due(name + ", unknowns", x.told(0), NO);
        Check.due(name + ", conditions", x.told(1), NO);
        noBest(x, name);
    }

    static void noBest(PotentialBench x, String name) {
        for (int i = 0; i <= 3; i++) {
            Check.due(name + ", scaled " + i, x.scaled(i, 0), NO);
            Check.due(name + ", scaled " + i + " with most", x.scaled(i, 40), NO);
        }
        Check.due(name + ", covers 0", x.covers(0, 0, 0, 0), NO);
        Check.due(name + ", covers less", x.covers(1, 1, 1, Long.MIN_VALUE), NO);
        Check.due(name + ", covers the most", x.covers(1, 1, 1, Long.MAX_VALUE), NO);
    }
}
