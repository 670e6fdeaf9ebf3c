/** Promises 7 to 10, sentence by sentence: run, cost, given, steps. */
final class RunPromises {
    private static final int BAD = PotentialBench.BAD;
    private static final int NO = PotentialBench.NO;
    private static final int LEAST = Integer.MIN_VALUE;
    private static final int MOST = Integer.MAX_VALUE;

    private RunPromises() {
    }

    static void all() {
        run();
        runThatIsBad();
        cost();
        given();
        steps();
    }

    private static void run() {
        Check.says("Function f is run for lengths a, b, c (as many as it takes): 0,");
        for (int takes = 0; takes <= 3; takes++) {
            PotentialBench x = new PotentialBench();
            Check.function(x, takes, Bodies.of(4, takes, 0));
            Check.function(x, 0, 2, 0);
            Check.run(x, "function 0 of " + takes, x.run(0, 5, 6, 7), takes, 0, 2);
            Check.run(x, "function 1", x.run(1, 5, 6, 7), 0, 1, 2);
            for (int i = 0; i < takes; i++) {
                Check.body(x, 0, 1, i);
                Check.run(x, "list " + i, x.run(0, 5, 6, 7), 0, 5 + i, 1);
            }
        }
        Check.says("or 1 when it was TOO LONG.");
        PotentialBench x = Check.bench(1, 3, 0, 0, 5, 0, 1);
        Check.due("60 calls", x.run(0, 59, 0, 0), 0);
        Check.due("61 calls", x.run(0, 60, 0, 0), 1);
        Check.due("60 calls again", x.run(0, 59, 0, 0), 0);
        Check.body(x, 0, 3, 0, 0, 6, 5, 0, 1, 5, 0, 1);
        Check.due("12284 steps", x.run(0, 11, 0, 0), 0);
        Check.due("24572 steps", x.run(0, 12, 0, 0), 1);
        Check.due("12284 steps again", x.run(0, 11, 0, 0), 0);
    }

    private static void runThatIsBad() {
        Check.says("BAD when there is no such function,");
        for (int count = 1; count <= 4; count++) {
            PotentialBench x = new PotentialBench();
            for (int f = 0; f < count; f++) {
                Check.function(x, 0, 4, f, 0);
            }
            for (int f = 0; f < count; f++) {
                Check.run(x, f + " of " + count, x.run(f, 0, 0, 0), f, 0, 2);
            }
            int[] none = {LEAST, -1, count, 4, MOST};
            for (int f : none) {
                Check.due(f + " of " + count, x.run(f, 0, 0, 0), BAD);
            }
        }
        Check.says("or look() is not 0,");
        PotentialBench x = Check.bench(0, 0);
        Check.function(x, 0, 0);
        Check.due("both right", x.run(0, 0, 0, 0), 0);
        x.word(1, 0);
        Check.due("the other is wrong", x.run(0, 0, 0, 0), BAD);
        Check.due("it is wrong", x.run(1, 0, 0, 0), BAD);
        x.cut(1, 1);
        Check.due("both right again", x.run(1, 0, 0, 0), 0);
        x.function(3);
        Check.due("one without a body", x.run(0, 0, 0, 0), BAD);
        Check.says("or a length that it takes is not 0 .. 3000.");
        int[] wrong = {LEAST, -1, 3001, MOST};
        int[] right = {0, 1, 2999, 3000};
        for (int takes = 0; takes <= 3; takes++) {
            x = Check.bench(takes, 0);
            for (int list = 0; list < 3; list++) {
                int[] lengths = {1, 1, 1};
                for (int length : wrong) {
                    lengths[list] = length;
                    int answer = x.run(0, lengths[0], lengths[1], lengths[2]);
                    Check.due(takes + " lists, list " + list + " is " + length, answer, list < takes ? BAD : 0);
                }
                for (int length : right) {
                    lengths[list] = length;
                    int answer = x.run(0, lengths[0], lengths[1], lengths[2]);
                    Check.due(takes + " lists, list " + list + " is " + length, answer, 0);
                }
            }
        }
    }

    /** Pays 7 for each element, and gives one. */
    private static PotentialBench runner() {
        return Check.bench(1, 3, 0, 2, 0, 4, 7, 5, 0, 1);
    }

    /** A run that is BAD for each reason that there is. */
    private static void bad(PotentialBench x) {
        Check.due("no such function", x.run(1, 0, 0, 0), BAD);
        Check.due("no such length", x.run(0, 3001, 0, 0), BAD);
        x.word(0, 0);
        Check.due("look() is not 0", x.run(0, 0, 0, 0), BAD);
        x.cut(0, 9);
    }

    private static void cost() {
        Check.says("The COST of the latest run that was not BAD,");
        PotentialBench x = runner();
        x.run(0, 3, 0, 0);
        Check.due("cost", x.cost(), 21);
        bad(x);
        Check.due("after BAD ones", x.cost(), 21);
        Check.due("bound", x.bound(0), 1);
        Check.due("after a bound", x.cost(), 21);
        x.cut(0, 0);
        x.look();
        Check.due("after a look, without a body", x.cost(), 21);
        Check.words(x, 0, 4, 1000, 0);
        x.run(0, 3, 0, 0);
        Check.due("of the latest", x.cost(), 1000);
        Check.body(x, 0, 0);
        x.run(0, 3, 0, 0);
        Check.due("nothing was paid", x.cost(), 0);
        Check.says("as far as it went;");
        x = runner();
        Check.due("too long", x.run(0, 60, 0, 0), 1);
        Check.due("60 times 7", x.cost(), 420);
        bad(x);
        Check.due("after BAD ones", x.cost(), 420);
        Check.due("ends", x.run(0, 0, 0, 0), 0);
        Check.due("of the latest", x.cost(), 0);
        Check.says("0 before.");
        x = runner();
        Check.due("before", x.cost(), 0);
        bad(x);
        Check.due("after BAD ones alone", x.cost(), 0);
    }

    private static void given() {
        Check.says("How long what the latest run that was not BAD gave is;");
        PotentialBench x = runner();
        x.run(0, 3, 0, 0);
        Check.due("given", x.given(), 1);
        bad(x);
        Check.due("after BAD ones", x.given(), 1);
        Check.due("bound", x.bound(0), 1);
        Check.due("after a bound", x.given(), 1);
        Check.body(x, 0, 1, 0);
        x.run(0, 3000, 0, 0);
        Check.due("of the latest", x.given(), 3000);
        // the empty list is something
        x.run(0, 0, 0, 0);
        Check.due("the empty list", x.given(), 0);
        Check.due("no such length", x.run(0, -1, 0, 0), BAD);
        Check.due("the empty list, after a BAD one", x.given(), 0);
        Check.says("NO when it gave nothing,");
        x = runner();
        Check.due("ends", x.run(0, 59, 0, 0), 0);
        Check.due("given", x.given(), 1);
        Check.due("too long", x.run(0, 60, 0, 0), 1);
        Check.due("given", x.given(), NO);
        bad(x);
        Check.due("after BAD ones", x.given(), NO);
        Check.due("ends", x.run(0, 0, 0, 0), 0);
        Check.due("given", x.given(), 1);
        Check.says("and before.");
        x = runner();
        Check.due("before", x.given(), NO);
        bad(x);
        Check.due("after BAD ones alone", x.given(), NO);
    }

    private static void steps() {
        Check.says("How many steps the latest run that was not BAD made;");
        PotentialBench x = runner();
        x.run(0, 3, 0, 0);
        Check.due("steps", x.steps(), 12);
        bad(x);
        Check.due("after BAD ones", x.steps(), 12);
        Check.due("bound", x.bound(0), 1);
        Check.due("after a bound", x.steps(), 12);
        x.run(0, 60, 0, 0);
        Check.due("of the latest, which was too long", x.steps(), 180);
        bad(x);
        Check.due("after BAD ones", x.steps(), 180);
        x.run(0, 0, 0, 0);
        Check.due("of the latest", x.steps(), 3);
        Check.says("0 before.");
        x = runner();
        Check.due("before", x.steps(), 0);
        bad(x);
        Check.due("after BAD ones alone", x.steps(), 0);
    }
}
