import java.util.Arrays;

/** What the document says under "Terms" on functions, bodies, variables and nodes. */
final class BodyTerms {
    private static final int BAD = PotentialBench.BAD;
    private static final int NO = PotentialBench.NO;
    private static final int FULL = PotentialBench.FULL;
    private static final int LEAST = Integer.MIN_VALUE;
    private static final int MOST = Integer.MAX_VALUE;

    private BodyTerms() {
    }

    static void all() {
        functions();
        lists();
        rowsOfWords();
        emptyAndLonger();
        variable();
        when();
        pay();
        call();
        then();
        numbersOfVariables();
        known();
        nodes();
        deep();
    }

    private static void functions() {
        Check.says("FUNCTIONS, at most four, numbered from 0, take 0 .. 3 lists each.");
        PotentialBench x = new PotentialBench();
        Check.due("takes too few", x.function(-1), BAD);
        Check.due("takes none", x.function(0), 0);
        Check.due("takes three", x.function(3), 1);
        Check.due("takes too many", x.function(4), BAD);
        Check.due("a third one", x.function(1), 2);
        Check.due("a fourth one", x.function(2), 3);
        Check.due("a fifth one", x.function(2), FULL);
        for (int f = 0; f < 4; f++) {
            Check.due("a word of function " + f, x.word(f, 0), 1);
        }
        Check.due("a word of a fifth one", x.word(4, 0), BAD);
        Check.due("a word of one below 0", x.word(-1, 0), BAD);
        Check.due("four right ones", x.look(), 0);
    }

    private static void lists() {
        Check.says("A LIST is told by its length alone.");
        PotentialBench x = Check.bench(3, 1, 1);
        Check.run(x, "the second list", x.run(0, 7, 4, 9), 0, 4, 1);
        Check.run(x, "an empty list", x.run(0, 7, 0, 9), 0, 0, 1);
        Check.run(x, "as long as a list can be", x.run(0, 7, 3000, 9), 0, 3000, 1);
    }

    private static void rowsOfWords() {
        Check.says("A BODY is a row of words, each an int, read from the left; an EXPRESSION is");
        Bodies.edges(0, Bodies.words(0), 0, Bodies.words(0), Bodies.words(-1, 7, 8, 256, LEAST, MOST));
        Bodies.edges(1, Bodies.words(2, 0), 1, Bodies.words(0), Bodies.words(-1, 7, 8, LEAST, MOST));
        // a word is read as what its place asks for: 4 is "pay", and what is paid
        PotentialBench x = Check.bench(0, 4, 4, 4, 5, 0);
        Check.run(x, "4 4 4 5 0", x.run(0, 0, 0, 0), 9, 0, 3);
    }

    private static void emptyAndLonger() {
        Check.says("0: the empty list;");
        PotentialBench x = Check.bench(1, 0);
        Check.run(x, "empty", x.run(0, 9, 0, 0), 0, 0, 1);
        Bodies.wrong(1, 0, 0, 0);

        Check.says("2 e: e, with one element more;");
        x = Check.bench(1, 2, 1, 0);
        Check.run(x, "one more than none", x.run(0, 0, 0, 0), 0, 1, 2);
        Check.run(x, "one more than most", x.run(0, 3000, 0, 0), 0, 3001, 2);
        Bodies.wrong(1, 1, 2);
        Bodies.wrong(3, 1, 2, 1, 0, 0);
    }

    private static void variable() {
        Check.says("1 v: variable v;");
        for (int takes = 0; takes <= 3; takes++) {
            for (int v = 0; v < takes; v++) {
                PotentialBench x = Check.bench(takes, 1, v);
                Check.run(x, "variable " + v, x.run(0, 10, 11, 12), 0, 10 + v, 1);
            }
            Bodies.edges(takes, Bodies.words(1, 0), 1, Bodies.words(),
                Bodies.words(-1, takes, takes + 1, 18, 32, 33, 64, LEAST, LEAST + 1, MOST));
        }
        Bodies.wrong(1, 3, 1);
        Bodies.wrong(2, 3, 1, 2, 0);
    }

    private static void when() {
        Check.says("3 v e f: when variable v is empty e, else f with a new variable, the rest of v (one element less);");
        PotentialBench x = Check.bench(2, 3, 1, 2, 2, 1, 0, 4, 5, 1, 2);
        Check.run(x, "it is empty", x.run(0, 9, 0, 0), 0, 11, 4);
        Check.run(x, "it has one", x.run(0, 9, 1, 0), 5, 0, 3);
        Check.run(x, "it has two", x.run(0, 9, 2, 0), 5, 1, 3);
        Check.run(x, "it has most", x.run(0, 0, 3000, 0), 5, 2999, 3);
        x = Check.bench(1, 3, 0, 0, 6, 1, 0, 1, 2);
        Check.run(x, "the variable stays as it is", x.run(0, 9, 0, 0), 0, 9, 4);
        Bodies.edges(2, Bodies.words(3, 0, 0, 0), 1, Bodies.words(0, 1), Bodies.words(-1, 2, 3, 32, LEAST, MOST));
        Bodies.wrong(1, 1, 3);
        Bodies.wrong(2, 1, 3, 0);
        Bodies.wrong(3, 1, 3, 0, 0);
        Bodies.wrong(4, 1, 3, 0, 0, 0, 0);
        Bodies.wrong(1, 0, 3, 0, 0, 0);
    }

    private static void pay() {
        Check.says("4 n e: n (0 .. 1000) is paid, then e;");
        Bodies.edges(0, Bodies.words(4, 0, 0), 1, Bodies.words(0, 1, 999, 1000),
            Bodies.words(-1, 1001, 1002, -1000, LEAST, MOST));
        int[] paid = {0, 1, 1000};
        for (int n : paid) {
            PotentialBench x = Check.bench(1, 4, n, 2, 1, 0);
            Check.run(x, n + " is paid", x.run(0, 6, 0, 0), n, 7, 3);
        }
        Bodies.wrong(1, 0, 4);
        Bodies.wrong(2, 0, 4, 1000);
        Bodies.wrong(3, 0, 4, 1000, 0, 0);
    }

    private static void call() {
        Check.says("5 f v1 .. vk: function f (that there is) of as many variables as it takes;");
        Bodies.edges(0, Bodies.words(5, 0), 1, Bodies.words(0), Bodies.words(-1, 1, 2, 3, 4, LEAST, MOST));
        for (int count = 1; count <= 4; count++) {
            PotentialBench x = new PotentialBench();
            for (int f = 0; f < count; f++) {
                Check.function(x, 0, 0);
            }
            for (int f = -1; f <= 4; f++) {
                boolean isThere = f >= 0 && f < count;
                Check.body(x, count - 1, 5, f);
                Check.due(f + " of " + count + ", look", x.look(), isThere ? 0 : -count);
                Check.due(f + " of " + count + ", place", x.place(), isThere ? NO : 1);
            }
        }
        for (int takes = 0; takes <= 3; takes++) {
            asManyVariables(takes);
        }
        // each list gets the variable of its own place
        PotentialBench x = Check.bench(3, 5, 1, 2, 0, 1);
        Check.function(x, 3, 1, 0);
        for (int i = 0; i < 3; i++) {
            Check.body(x, 1, 1, i);
            Check.run(x, "list " + i, x.run(0, 10, 11, 12), 0, Bodies.words(12, 10, 11)[i], 2);
        }
    }

    private static void asManyVariables(int takes) {
        PotentialBench x = new PotentialBench();
        x.function(2);
        Check.function(x, takes, 0);
        int[] call = Bodies.of(5, 1, Bodies.times(takes, 1));
        Check.body(x, 0, call);
        Check.due("call with " + takes + ", look", x.look(), 0);
        x.word(0, 1);
        Check.due("call with one more than " + takes + ", look", x.look(), -1);
        Check.due("call with one more than " + takes + ", place", x.place(), 2 + takes);
        for (int i = 0; i < takes; i++) {
            x.cut(0, 2 + i);
            Check.due("call with " + i + " of " + takes + ", look", x.look(), -1);
            Check.due("call with " + i + " of " + takes + ", place", x.place(), 2 + i);
            int[] unknown = {-1, 2, 3, 32, LEAST, MOST};
            for (int v : unknown) {
                x.cut(0, 2 + i);
                x.word(0, v);
                Check.words(x, 0, Bodies.times(takes - i - 1, 1));
                Check.due("call with " + v + " as list " + i + ", look", x.look(), -1);
                Check.due("call with " + v + " as list " + i + ", place", x.place(), 2 + i);
            }
            Check.body(x, 0, call);
        }
    }

    private static void then() {
        Check.says("6 e f: e, and then f with a new variable, what e has given.");
        PotentialBench x = Check.bench(1, 6, 2, 1, 0, 2, 1, 1);
        Check.run(x, "e, then f", x.run(0, 5, 0, 0), 0, 7, 5);
        x = Check.bench(0, 6, 0, 1, 0);
        Check.run(x, "e gives the empty list", x.run(0, 0, 0, 0), 0, 0, 3);
        x = Check.bench(1, 6, 4, 100, 1, 0, 4, 10, 0);
        Check.run(x, "what e pays is paid too", x.run(0, 5, 0, 0), 110, 0, 5);
        Bodies.wrong(1, 0, 6);
        Bodies.wrong(2, 0, 6, 0);
        Bodies.wrong(3, 0, 6, 0, 0, 0);
    }

    private static void numbersOfVariables() {
        Check.says("VARIABLES are numbered from 0: first what the function takes; a new one has the next number");
        for (int takes = 0; takes <= 3; takes++) {
            // two new ones, one of each kind: takes is 3 elements, takes + 1 its rest
            int[] head = Bodies.of(6, Bodies.chain(4), 3, takes, 0, 1);
            int[] due = {10, 11, 12};
            for (int v = 0; v < takes; v++) {
                PotentialBench x = Check.bench(takes, Bodies.of(head, v));
                Check.run(x, "variable " + v + " of " + takes, x.run(0, 10, 11, 12), 0, due[v], 7);
            }
            for (int more = 0; more < 2; more++) {
                PotentialBench x = Check.bench(takes, Bodies.of(head, takes + more));
                Check.run(x, "new one " + more, x.run(0, 10, 11, 12), 0, 3 - more, 7);
            }
            Bodies.wrong(head.length, takes, Bodies.of(head, takes + 2));
            Bodies.wrong(head.length, takes, Bodies.of(head, -1));
        }
        // as many as can be: 3 lists, and 15 new ones
        int[] most = new int[0];
        for (int i = 0; i < 15; i++) {
            most = Bodies.of(most, 6, 1, i);
        }
        PotentialBench x = Check.bench(3, Bodies.of(most, 1, 17));
        Check.run(x, "the 18th", x.run(0, 10, 11, 12), 0, 12, 31);
        Bodies.wrong(most.length + 1, 3, Bodies.of(most, 1, 18));
        // the last ones are handed to a function that has variables of its own
        x = Check.bench(3, Bodies.of(most, 5, 1, 16, 17));
        Check.function(x, 2, 3, 0, 4, 5, 1, 1, 6, 5, 1, 2, 1, 1, 3);
        Check.run(x, "the 18th is handed over", x.run(0, 9, 3, 2), 5, 2, 31 + 3 * 4 + 3);
        Check.due("the 18th is handed over, bound", x.bound(0), 1);
        Bounds.told(x, 6 + 1 + 5 + 2 + 1 + 1, 4 + 3 + 3 + 3 + 2 + 3);
    }

    private static void known() {
        Check.says("and is known in f alone.");
        Bodies.right(1, 3, 0, 0, 1, 1);
        Bodies.wrong(3, 1, 3, 0, 1, 1, 1, 1);
        Bodies.right(1, 6, 0, 1, 1);
        Bodies.wrong(2, 1, 6, 1, 1, 1, 1);
        // of a part that is over nothing is known any more: 1 is the outer one, 2 was the inner one
        Bodies.right(1, 6, 6, 0, 6, 0, 1, 2, 1, 1);
        Bodies.wrong(8, 1, 6, 6, 0, 6, 0, 1, 2, 1, 2);
        Bodies.right(1, 6, 3, 0, 0, 1, 1, 1, 1);
        Bodies.wrong(7, 1, 6, 3, 0, 0, 1, 1, 1, 2);
        Bodies.wrong(7, 1, 3, 0, 6, 0, 1, 1, 1, 2);
        PotentialBench x = Check.bench(1, 6, 6, 2, 2, 0, 0, 1, 1);
        Check.run(x, "1 is what the outer one made", x.run(0, 9, 0, 0), 0, 0, 7);
        // nor in another function, nor in the same one when it calls itself
        x = Check.bench(1, 6, 0, 5, 1, 1);
        Check.function(x, 1, 1, 1);
        Check.due("of the caller nothing is known, look", x.look(), -2);
        Check.due("of the caller nothing is known, place", x.place(), 1);
    }

    private static void nodes() {
        Check.says("NODES are the expressions of a body, one in the other: at most 40,");
        int[][] leaves = {Bodies.words(0), Bodies.words(1, 0), Bodies.words(5, 0, 0)};
        for (int[] leaf : leaves) {
            int[] most = Bodies.joined(20, leaf);
            Bodies.right(1, most);
            Bodies.right(1, Bodies.of(2, most));
            Bodies.right(1, Bodies.of(4, 1000, most));
            // the last leaf is the 41st
            Bodies.wrong(2 + most.length - leaf.length, 1, Bodies.of(2, 2, most));
            Bodies.wrong(4 + most.length - leaf.length, 1, Bodies.of(4, 9, 4, 9, most));
            int[] more = Bodies.joined(21, leaf);
            Bodies.wrong(more.length - leaf.length, 1, more);
            // some lack, and the first that does is the 41st
            Bodies.wrong(more.length - leaf.length, 1, Arrays.copyOf(more, more.length - leaf.length));
        }
        // the 41st of each kind, after two times 19 and what joins them
        int[] before = Bodies.of(6, Bodies.joined(10, 0), 6, Bodies.joined(10, 0));
        int[][] last = {{0}, {1, 0}, {2, 0}, {3, 0, 0, 0}, {4, 0, 0}, {5, 0, 0}, {6, 0, 0}};
        for (int[] kind : last) {
            Bodies.wrong(before.length, 1, Bodies.of(before, kind));
        }
        Bodies.right(1, Bodies.of(6, Bodies.joined(10, 0), 6, Bodies.joined(9, 0), 2, 0));
        // what is counted is nodes of one body, not words, and not of all functions
        PotentialBench x = new PotentialBench();
        for (int f = 0; f < 4; f++) {
            x.function(3);
        }
        int[] longest = Bodies.of(4, 1000, branches(20));
        Check.due("words", longest.length, 140);
        for (int f = 0; f < 4; f++) {
            x.cut(f, 0);
            Check.words(x, f, f < 2 ? Bodies.of(2, Bodies.joined(20, 0)) : longest);
        }
        Check.due("four times 40 nodes", x.look(), 0);
    }

    /** As many words as so many leaves can have: calls with three lists, in branches that ask the same variable. */
    private static int[] branches(int count) {
        if (count == 1) {
            return Bodies.words(5, 3, 0, 1, 2);
        }
        return Bodies.of(3, 2, branches(count / 2), branches(count - count / 2));
    }

    private static void deep() {
        Check.says("at most 16 deep.");
        // each way to be within: what stands before the inner one, and behind it
        int[][] before = {{2}, {4, 5}, {3, 0}, {3, 0, 0}, {6}, {6, 0}};
        int[][] behind = {{}, {}, {0}, {}, {0}, {}};
        int[][] leaves = {{0}, {1, 0}, {5, 0, 0}};
        for (int way = 0; way < before.length; way++) {
            int[] head = Bodies.times(15, before[way]);
            int[] tail = Bodies.times(15, behind[way]);
            for (int[] leaf : leaves) {
                Bodies.right(1, Bodies.of(head, leaf, tail));
            }
            Bodies.wrong(head.length, 1, head);
            for (int inner = 0; inner < before.length; inner++) {
                int[] deeper = Bodies.of(before[inner], 0, behind[inner], tail);
                // an empty list before the one that is asked for is the first that is too deep
                int own = before[inner].length - (inner == 3 || inner == 5 ? 1 : 0);
                Bodies.wrong(head.length + own, 1, Bodies.of(head, deeper));
            }
        }
        // too deep and one too many at once
        Bodies.wrong(16, 0, Bodies.chain(41));
        // deep again in the other part
        Bodies.right(0, Bodies.of(6, Bodies.chain(15), Bodies.chain(15)));
        Bodies.wrong(16, 0, Bodies.of(6, Bodies.chain(16), Bodies.chain(15)));
        Bodies.wrong(31, 0, Bodies.of(6, Bodies.chain(15), Bodies.chain(16)));
    }
}
