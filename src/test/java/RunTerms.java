/** What the document says under "Terms" on running a function. */
final class RunTerms {
    private static final int NO = PotentialBench.NO;

    private RunTerms() {
    }

    static void all() {
        cost();
        steps();
        stepLimit();
        longLists();
        callLimit();
        firstCall();
    }

    private static void cost() {
        Check.says("RUNNING a function for lengths: what is paid is its COST.");
        PotentialBench x = Check.bench(1, 3, 0, 4, 7, 0, 4, 1000, 6, 4, 50, 0, 5, 0, 1);
        Check.run(x, "nothing but the end", x.run(0, 0, 0, 0), 7, 0, 3);
        Check.run(x, "one element", x.run(0, 1, 0, 0), 1057, 0, 9);
        Check.run(x, "59 elements", x.run(0, 59, 0, 0), 59 * 1050 + 7, 0, 59 * 6 + 3);
        x = Check.bench(1, 0);
        Check.run(x, "nothing is paid", x.run(0, 59, 0, 0), 0, 0, 1);
        // much of it: 15 times 1000 in 16 steps, by functions of which each calls the one before
        x = new PotentialBench();
        Check.function(x, 0, Bodies.of(Bodies.times(15, 4, 1000), 0));
        Check.function(x, 0, Bodies.of(Bodies.times(12, 6, 5, 0), 0));
        Check.function(x, 0, Bodies.of(Bodies.times(12, 6, 5, 1), 0));
        Check.function(x, 0, Bodies.of(Bodies.times(7, 6, 5, 2), 0));
        Check.run(x, "16 steps", x.run(0, 0, 0, 0), 15000, 0, 16);
        Check.run(x, "217 steps", x.run(1, 0, 0, 0), 12 * 15000, 0, 217);
        Check.run(x, "2629 steps", x.run(2, 0, 0, 0), 144 * 15000, 0, 2629);
        Check.run(x, "18418 steps", x.run(3, 0, 0, 0), 1008 * 15000, 0, 18418);
    }

    private static void steps() {
        Check.says("Each expression that is begun is a step;");
        PotentialBench x = Check.bench(1, 0);
        Check.run(x, "0", x.run(0, 3, 0, 0), 0, 0, 1);
        Check.body(x, 0, 1, 0);
        Check.run(x, "1 v", x.run(0, 3, 0, 0), 0, 3, 1);
        Check.body(x, 0, 2, 0);
        Check.run(x, "2 e", x.run(0, 3, 0, 0), 0, 1, 2);
        // of two branches one is begun
        Check.body(x, 0, 3, 0, 2, 2, 0, 2, 1, 1);
        Check.run(x, "3 v e f, empty", x.run(0, 0, 0, 0), 0, 2, 4);
        Check.run(x, "3 v e f, not empty", x.run(0, 3, 0, 0), 0, 3, 3);
        Check.body(x, 0, 4, 0, 0);
        Check.run(x, "4 n e", x.run(0, 3, 0, 0), 0, 0, 2);
        Check.body(x, 0, 6, 2, 0, 2, 1, 1);
        Check.run(x, "6 e f", x.run(0, 3, 0, 0), 0, 2, 5);
        // a call is a step, and the body of what is called
        Check.body(x, 0, 5, 1, 0);
        Check.function(x, 1, 2, 1, 0);
        Check.run(x, "5 f v", x.run(0, 3, 0, 0), 0, 4, 3);
        Check.run(x, "what is called, alone", x.run(1, 3, 0, 0), 0, 4, 2);
    }

    private static void stepLimit() {
        Check.says("where there would be more than 20000 steps (the next one is not begun, and not counted),");
        // each kind as the last one that there may be, and as the first that there may not
        ends(19999, 0, 0, 20000, 0);
        tooLong(20000, 0, 0);
        ends(19999, 0, 8, 20000, 1, 2);
        tooLong(20000, 0, 1, 2);
        ends(19998, 0, 1, 20000, 2, 0);
        tooLong(19999, 0, 2, 0);
        tooLong(20000, 0, 2, 0);
        ends(19998, 0, 7, 20000, 3, 2, 0, 1, 4);
        tooLong(19999, 0, 3, 2, 0, 1, 4);
        tooLong(20000, 0, 3, 2, 0, 1, 4);
        ends(19998, 1000, 0, 20000, 4, 1000, 0);
        tooLong(19999, 1000, 4, 1000, 0);
        tooLong(20000, 0, 4, 1000, 0);
        ends(19998, 0, 0, 20000, 5, 3);
        tooLong(19999, 0, 5, 3);
        tooLong(20000, 0, 5, 3);
        ends(19997, 0, 0, 20000, 6, 0, 1, 4);
        tooLong(19998, 0, 6, 0, 1, 4);
        tooLong(19999, 0, 6, 0, 1, 4);
        tooLong(20000, 0, 6, 0, 1, 4);
        // one step less than there may be
        ends(19998, 0, 0, 19999, 0);
    }

    private static void ends(int before, long cost, int given, int steps, int... expression) {
        PotentialBench x = late(before, expression);
        Check.run(x, before + " steps, then kind " + expression[0], x.run(2, 11, 10, 8), cost, given, steps);
    }

    private static void tooLong(int before, long cost, int... expression) {
        PotentialBench x = late(before, expression);
        Check.run(x, before + " steps, then kind " + expression[0], x.run(2, 11, 10, 8), cost, NO, 20000);
        Check.run(x, "a short one after it", x.run(0, 0, 0, 0), 0, 0, 2);
    }

    /** Function 2, for lists of 11, 10 and 8, makes so many steps (19997 .. 20000) and then begins the expression. */
    private static PotentialBench late(int before, int... expression) {
        PotentialBench x = new PotentialBench();
        // 6 * 2^n - 4 steps for n elements: 12284, 6140 and 1532
        Check.function(x, 1, 3, 0, 0, 6, 5, 0, 1, 5, 0, 1);
        // 19964 - 12284 - 6140 - 1532 = 8: what joins the calls, and the calls themselves
        int more = before - 19964;
        Check.function(x, 0, Bodies.of(6, Bodies.chain(more - 24), 6, Bodies.chain(11), Bodies.chain(11)));
        Check.function(x, 3, Bodies.of(6, 6, 5, 0, 0, 6, 5, 0, 1, 6, 5, 0, 2, 5, 1, expression));
        Check.function(x, 0, 0);
        Check.run(x, "function 1", x.run(1, 0, 0, 0), 0, 10, more);
        return x;
    }

    private static void longLists() {
        Check.says("or a list more than 30000 elements,");
        // 23000 would be the most: 3000, and one for each step; ElementsTest stands on both sides of the limit
        PotentialBench x = new PotentialBench();
        Check.function(x, 1, Bodies.of(Bodies.times(15, 2), 1, 0));
        Check.function(x, 1, Bodies.of(calls(0, 0, 12), 1, 12));
        Check.function(x, 1, Bodies.of(calls(1, 0, 12), 1, 12));
        Check.function(x, 1, Bodies.of(calls(2, 0, 7), calls(1, 7, 14), 1, 14));
        Check.run(x, "15 more", x.run(0, 3000, 0, 0), 0, 3015, 16);
        Check.run(x, "180 more", x.run(1, 3000, 0, 0), 0, 3180, 217);
        Check.run(x, "2160 more", x.run(2, 3000, 0, 0), 0, 5160, 2629);
        Check.run(x, "16380 more", x.run(3, 3000, 0, 0), 0, 19380, 19951);
    }

    /** Calls of function f, each with what the one before gave, from that variable on. */
    private static int[] calls(int f, int from, int to) {
        int[] words = new int[0];
        for (int v = from; v < to; v++) {
            words = Bodies.of(words, 6, 5, f, v);
        }
        return words;
    }

    private static void callLimit() {
        Check.says("or a 61st call within calls, it is TOO LONG");
        within("as it is", 0, 0, 2, 5, 0, 1);
        within("with one element more", 0, 1, 3, 2, 5, 0, 1);
        within("after a payment", 9, 0, 3, 4, 9, 5, 0, 1);
        within("before what comes then", 0, 0, 3, 6, 5, 0, 1, 1, 2);
        within("then", 0, 0, 4, 6, 0, 5, 0, 1);
        within("in a branch", 0, 0, 3, 3, 0, 0, 5, 0, 1);
        // each other's calls count as well
        PotentialBench x = Check.bench(1, 3, 0, 0, 5, 1, 1);
        Check.function(x, 1, 4, 1, 5, 2, 0);
        Check.function(x, 1, 5, 0, 0);
        Check.run(x, "58 calls", x.run(0, 19, 0, 0), 19, 0, 19 * 5 + 2);
        Check.run(x, "61 calls", x.run(0, 20, 0, 0), 20, NO, 20 * 5);
        Check.run(x, "59 calls", x.run(2, 19, 0, 0), 19, 0, 19 * 5 + 3);
        Check.run(x, "60 calls", x.run(1, 19, 0, 0), 20, 0, 19 * 5 + 5);
        Check.run(x, "62 calls", x.run(2, 20, 0, 0), 20, NO, 20 * 5);
        Check.run(x, "63 calls", x.run(1, 20, 0, 0), 20, NO, 20 * 5);
        // calls that are over do not count: 20 in each of 20, and each of them within 2 others
        x = new PotentialBench();
        Check.function(x, 0, 4, 1, 0);
        Check.function(x, 0, Bodies.joined(20, 5, 0));
        Check.function(x, 0, Bodies.joined(20, 5, 1));
        Check.run(x, "400 calls", x.run(2, 0, 0, 0), 400, 0, 39 + 20 * (39 + 20 * 2));
    }

    /** Function 0 calls itself in this way for each element; so many steps for each of them. */
    private static void within(String name, int paid, int longer, int steps, int... expression) {
        PotentialBench x = Check.bench(1, Bodies.of(3, 0, 0, expression));
        // what comes then is a step more for each call that is over
        int after = expression[0] == 6 && expression[1] == 5 ? 1 : 0;
        Check.run(x, name + ", 59 elements", x.run(0, 59, 0, 0), 59 * paid, 59 * longer, 59 * (steps + after) + 2);
        Check.run(x, name + ", 60 elements", x.run(0, 60, 0, 0), 60 * paid, NO, 60 * steps);
        Check.run(x, name + ", 61 elements", x.run(0, 61, 0, 0), 60 * paid, NO, 60 * steps);
        Check.run(x, name + ", 3000 elements", x.run(0, 3000, 0, 0), 60 * paid, NO, 60 * steps);
        Check.run(x, name + ", 59 elements again", x.run(0, 59, 0, 0), 59 * paid, 59 * longer, 59 * (steps + after) + 2);
    }

    private static void firstCall() {
        Check.says("(the function that is run is the first call).");
        PotentialBench x = Check.bench(1, 3, 0, 0, 5, 0, 1);
        Check.function(x, 1, 5, 0, 0);
        Check.function(x, 1, 5, 1, 0);
        Check.run(x, "the 60th call is the last", x.run(0, 59, 0, 0), 0, 0, 120);
        Check.run(x, "one more", x.run(0, 60, 0, 0), 0, NO, 120);
        Check.run(x, "one call round it", x.run(1, 58, 0, 0), 0, 0, 119);
        Check.run(x, "one call round it, one more", x.run(1, 59, 0, 0), 0, NO, 119);
        Check.run(x, "two calls round it", x.run(2, 57, 0, 0), 0, 0, 118);
        Check.run(x, "two calls round it, one more", x.run(2, 58, 0, 0), 0, NO, 118);
        // without end
        x = Check.bench(0, 5, 0);
        Check.run(x, "itself", x.run(0, 0, 0, 0), 0, NO, 60);
    }
}
