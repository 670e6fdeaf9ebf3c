import java.util.Arrays;

/** Makes bodies out of parts, and looks whether the class takes them. */
final class Bodies {
    private static final int BAD = PotentialBench.BAD;
    private static final int NO = PotentialBench.NO;

    private Bodies() {
    }

    /** The words of all parts, each an int or a row of them, one after the other. */
    static int[] of(Object... parts) {
        int[] words = new int[0];
        for (Object part : parts) {
            int[] more = part instanceof int[] row ? row : new int[] {(Integer) part};
            words = Arrays.copyOf(words, words.length + more.length);
            System.arraycopy(more, 0, words, words.length - more.length, more.length);
        }
        return words;
    }

    static int[] words(int... words) {
        return words;
    }

    static int[] times(int count, int... words) {
        int[] all = new int[0];
        for (int i = 0; i < count; i++) {
            all = of(all, words);
        }
        return all;
    }

    /** An expression of so many nodes, each in the one before: the empty list, with elements more. */
    static int[] chain(int nodes) {
        return of(times(nodes - 1, 2), 0);
    }

    /** So many times the same expression, one after the other: 2 * count - 1 nodes, if it is one node, and not deep. */
    static int[] joined(int count, int... expression) {
        if (count == 1) {
            return expression;
        }
        return of(6, joined(count / 2, expression), joined(count - count / 2, expression));
    }

    static void right(int takes, int... words) {
        PotentialBench x = Check.bench(takes, words);
        Check.due(Arrays.toString(words) + " look", x.look(), 0);
        Check.due(Arrays.toString(words) + " place", x.place(), NO);
    }

    static void wrong(int place, int takes, int... words) {
        PotentialBench x = Check.bench(takes, words);
        Check.due(Arrays.toString(words) + " look", x.look(), -1);
        Check.due(Arrays.toString(words) + " place", x.place(), place);
        Check.due(Arrays.toString(words) + " run", x.run(0, 0, 0, 0), BAD);
        Check.due(Arrays.toString(words) + " bound", x.bound(0), BAD);
    }

    /** Each number can stand at the place of these words, and no number of the others. */
    static void edges(int takes, int[] words, int place, int[] rightOnes, int[] wrongOnes) {
        int[] body = words.clone();
        for (int number : rightOnes) {
            body[place] = number;
            right(takes, body);
        }
        for (int number : wrongOnes) {
            body[place] = number;
            wrong(place, takes, body);
        }
    }
}
