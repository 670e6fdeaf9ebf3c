/** Functions with large numbers for bounds: each calls the one before it with a list that it makes anew. */
final class Towers {
    private Towers() {
    }

    /** Function 0 pays 14000 for each element; each later one calls the one before four times with 23 for each. */
    static PotentialBench tall() {
        PotentialBench x = payer();
        for (int f = 1; f <= 3; f++) {
            Check.function(x, 1, level(f, 4));
        }
        return x;
    }

    /** Function 3 has 14000 * 4 * 23 * 2 * 23 * 2 * 20 to pay for three of its elements. */
    static PotentialBench ofThree() {
        PotentialBench x = payer();
        Check.function(x, 1, level(1, 4));
        Check.function(x, 1, level(2, 2));
        Check.function(x, 1, Bodies.of(3, 0, 0, 3, 1, 0, 3, 2, 0, 6, 6, Bodies.chain(11), Bodies.times(10, 2), 1, 4,
            Bodies.times(2, 6, 5, 2, 4), 5, 3, 3));
        return x;
    }

    private static PotentialBench payer() {
        return Check.bench(1, Bodies.of(3, 0, 0, Bodies.times(14, 4, 1000), 5, 0, 1));
    }

    private static int[] level(int f, int calls) {
        int[] made = Bodies.of(6, 6, Bodies.chain(13), Bodies.times(11, 2), 1, 2);
        return Bodies.of(3, 0, 0, made, Bodies.times(calls, 6, 5, f - 1, 2), 5, f, 1);
    }
}
