import java.util.Arrays;

/** Promises 5 and 6: look, place. */
public final class LookTest {
    private static final int NO = PotentialBench.NO;
    private static final int BAD = PotentialBench.BAD;

    public static void main(String[] args) {
        oneBody();
        limitsOfNodes();
        severalBodies();
        laterFunction();
        latestLook();
        Check.end("LookTest");
    }

    private static void oneBody() {
        Bodies.right(0, 0);
        Bodies.right(1, 1, 0);
        Bodies.right(3, 1, 2);
        Bodies.right(1, 2, 1, 0);
        Bodies.right(1, 3, 0, 0, 1, 1);
        Bodies.right(0, 4, 0, 0);
        Bodies.right(0, 4, 1000, 0);
        Bodies.right(0, 5, 0);
        Bodies.right(3, 5, 0, 2, 2, 0);
        Bodies.right(0, 6, 0, 1, 0);
        Bodies.right(1, 6, 1, 0, 1, 1);
        // a new variable has the next number, and is known in the second part alone
        Bodies.right(2, 3, 1, 1, 1, 3, 2, 1, 2, 1, 3);
        Bodies.right(1, 6, 6, 0, 1, 1, 6, 1, 1, 1, 2);

        Bodies.wrong(0, 0);
        Bodies.wrong(0, 0, -1);
        Bodies.wrong(0, 0, 7);
        Bodies.wrong(0, 0, Integer.MIN_VALUE);
        Bodies.wrong(0, 0, Integer.MAX_VALUE);
        Bodies.wrong(1, 0, 0, 0);
        Bodies.wrong(2, 1, 1, 0, 99);
        Bodies.wrong(1, 1, 1);
        Bodies.wrong(1, 0, 1, 0);
        Bodies.wrong(1, 1, 1, 1);
        Bodies.wrong(1, 1, 1, -1);
        Bodies.wrong(1, 0, 2);
        Bodies.wrong(1, 0, 2, 8);
        Bodies.wrong(1, 1, 3);
        Bodies.wrong(1, 1, 3, 1, 0, 0);
        Bodies.wrong(2, 1, 3, 0);
        Bodies.wrong(3, 1, 3, 0, 0);
        Bodies.wrong(3, 1, 3, 0, 1, 1, 1, 1);
        Bodies.wrong(5, 1, 3, 0, 1, 0, 1, 2);
        Bodies.wrong(6, 1, 3, 0, 1, 0, 1, 1, 0);
        Bodies.wrong(1, 0, 4);
        Bodies.wrong(1, 0, 4, -1, 0);
        Bodies.wrong(1, 0, 4, 1001, 0);
        Bodies.wrong(2, 0, 4, 5);
        Bodies.wrong(1, 0, 5);
        Bodies.wrong(1, 0, 5, 1);
        Bodies.wrong(1, 0, 5, -1);
        Bodies.wrong(2, 2, 5, 0);
        Bodies.wrong(3, 2, 5, 0, 1);
        Bodies.wrong(3, 2, 5, 0, 1, 2);
        Bodies.wrong(4, 2, 5, 0, 1, 1, 1);
        Bodies.wrong(2, 0, 5, 0, 0);
        Bodies.wrong(1, 0, 6);
        Bodies.wrong(2, 0, 6, 0);
        Bodies.wrong(2, 0, 6, 1, 0, 0);
        Bodies.wrong(3, 0, 6, 0, 1);
        Bodies.wrong(3, 0, 6, 0, 1, 1);
        Bodies.wrong(7, 1, 6, 6, 0, 1, 1, 6, 1, 2, 0, 0);
        // the first wrong word is told, not a later one
        Bodies.wrong(1, 1, 4, 2000, 9, 9, 9);
        Bodies.wrong(3, 1, 6, 1, 0, 9, 1, 7);
    }

    private static void limitsOfNodes() {
        Bodies.right(0, Bodies.chain(16));
        Bodies.wrong(16, 0, Bodies.chain(17));
        Bodies.wrong(16, 0, Bodies.chain(40));
        Bodies.wrong(15, 0, Arrays.copyOf(Bodies.chain(16), 15));
        Bodies.wrong(16, 0, Arrays.copyOf(Bodies.chain(17), 16));
        // the second part of the 16th has no room either: 15 times "6 0", then a leaf, and one level more
        int[] then = new int[31];
        for (int i = 0; i < 15; i++) {
            then[2 * i] = 6;
        }
        Bodies.right(0, then);
        int[] deeper = Arrays.copyOf(then, 33);
        deeper[30] = 6;
        Bodies.wrong(31, 0, deeper);
        // "6 e f" with both parts of so many nodes
        Bodies.right(0, Bodies.of(6, nodes(19), nodes(20)));
        Bodies.wrong(40, 0, Bodies.of(6, nodes(20), nodes(20)));
        Bodies.wrong(40, 0, Bodies.of(6, nodes(20), nodes(25)));
        Bodies.wrong(40, 0, Bodies.of(6, Bodies.of(6, nodes(16), nodes(15)), Bodies.of(6, nodes(7), nodes(9))));
        // a 41st node that is not there: words lack
        Bodies.wrong(40, 0, Arrays.copyOf(Bodies.of(6, nodes(20), nodes(20)), 40));
        // with words that are no nodes between them
        int[] paid = new int[0];
        for (int i = 0; i < 13; i++) {
            paid = Arrays.copyOf(paid, paid.length + 2);
            paid[paid.length - 2] = 4;
            paid[paid.length - 1] = 1000;
        }
        int[] pays = Arrays.copyOf(paid, 27);
        Bodies.right(0, Bodies.of(6, Bodies.of(6, pays, Bodies.of(6, nodes(10), new int[] {0})), nodes(12)));
        Bodies.wrong(53, 0, Bodies.of(6, Bodies.of(6, pays, Bodies.of(6, nodes(11), new int[] {0})), nodes(12)));
    }

    private static void severalBodies() {
        PotentialBench x = new PotentialBench();
        Check.due("no functions", x.look(), 0);
        for (int f = 0; f < 4; f++) {
            x.function(0);
        }
        for (int f = 0; f < 4; f++) {
            Check.due("without a body", x.look(), -1 - f);
            Check.due("without a body, place", x.place(), 0);
            x.word(f, 0);
        }
        Check.due("all right", x.look(), 0);
        Check.due("all right, place", x.place(), NO);
        x.word(3, 1);
        Check.due("the last is wrong", x.look(), -4);
        Check.due("the last is wrong, place", x.place(), 1);
        x.cut(1, 0);
        Check.due("the first that is wrong", x.look(), -2);
        Check.due("the first that is wrong, place", x.place(), 0);
        Check.due("run of a right one is BAD too", x.run(0, 0, 0, 0), BAD);
        Check.due("bound of a right one is BAD too", x.bound(0), BAD);
    }

    private static void laterFunction() {
        PotentialBench x = Check.bench(1, 2, 5, 1, 0, 0);
        Check.due("a function that is not yet", x.look(), -1);
        Check.due("a function that is not yet, place", x.place(), 2);
        Check.due("now it is", x.function(2), 1);
        Check.due("but it has no body", x.look(), -2);
        Check.due("but it has no body, place", x.place(), 0);
        Check.words(x, 1, 1, 1);
        Check.due("now it has one", x.look(), 0);
    }

    private static void latestLook() {
        PotentialBench x = Check.bench(0, 2, 4, 7);
        Check.due("before a look", x.place(), NO);
        Check.due("look", x.look(), -1);
        Check.due("place", x.place(), 3);
        Check.due("place again", x.place(), 3);
        x.word(0, 0);
        Check.due("place is of the latest look", x.place(), 3);
        Check.due("run", x.run(0, 0, 0, 0), 0);
        Check.due("bound", x.bound(0), 1);
        Check.due("run and bound are no look", x.place(), 3);
        Check.due("look", x.look(), 0);
        Check.due("place", x.place(), NO);
        x.cut(0, 1);
        Check.due("place is of the latest look", x.place(), NO);
        Check.due("run", x.run(0, 0, 0, 0), BAD);
        Check.due("bound", x.bound(0), BAD);
        Check.due("run and bound are no look", x.place(), NO);
    }

    /** An expression with so many nodes, at most 14 deep. */
    private static int[] nodes(int count) {
        return count <= 12 ? Bodies.chain(count) : Bodies.of(6, Bodies.chain(10), nodes(count - 11));
    }
}
