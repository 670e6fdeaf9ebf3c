/** Promises 7 to 10: run, cost, given, steps. */
public final class RunTest {
    private static final int BAD = PotentialBench.BAD;
    private static final int NO = PotentialBench.NO;

    public static void main(String[] args) {
        eachKind();
        lengths();
        variables();
        calls();
        stepLimit();
        latestRun();
        Check.end("RunTest");
    }

    private static void eachKind() {
        PotentialBench x = Check.bench(0, 0);
        Check.run(x, "empty", x.run(0, 0, 0, 0), 0, 0, 1);
        x = Check.bench(2, 1, 1);
        Check.run(x, "variable", x.run(0, 5, 9, 0), 0, 9, 1);
        x = Check.bench(1, 2, 2, 1, 0);
        Check.run(x, "longer", x.run(0, 3000, 0, 0), 0, 3002, 3);
        x = Check.bench(1, 3, 0, 4, 2, 0, 4, 5, 1, 1);
        Check.run(x, "when it is empty", x.run(0, 0, 0, 0), 2, 0, 3);
        Check.run(x, "when it is not", x.run(0, 8, 0, 0), 5, 7, 3);
        Check.run(x, "when it has one", x.run(0, 1, 0, 0), 5, 0, 3);
        x = Check.bench(0, 4, 1000, 4, 0, 4, 7, 0);
        Check.run(x, "paid", x.run(0, 0, 0, 0), 1007, 0, 4);
        x = Check.bench(2, 6, 2, 1, 0, 3, 2, 0, 6, 4, 3, 1, 3, 2, 1, 4);
        Check.run(x, "then", x.run(0, 4, 2, 0), 3, 5, 9);
    }

    private static void lengths() {
        for (int takes = 0; takes <= 3; takes++) {
            PotentialBench x = Check.bench(takes, 4, 6, 0);
            for (int list = 0; list < 3; list++) {
                int[] wrong = {-1, 3001, Integer.MIN_VALUE, Integer.MAX_VALUE};
                for (int length : wrong) {
                    int[] l = {0, 0, 0};
                    l[list] = length;
                    int want = list < takes ? BAD : 0;
                    Check.due(takes + " lists, " + length, x.run(0, l[0], l[1], l[2]), want);
                }
                int[] right = {0, 1, 3000};
                for (int length : right) {
                    int[] l = {3000, 3000, 3000};
                    l[list] = length;
                    Check.due(takes + " lists, " + length, x.run(0, l[0], l[1], l[2]), 0);
                }
            }
            Check.due("no such function", x.run(1, 0, 0, 0), BAD);
            Check.due("no such function", x.run(-1, 0, 0, 0), BAD);
            Check.due("no such function", x.run(Integer.MIN_VALUE, 0, 0, 0), BAD);
        }
    }

    private static void variables() {
        PotentialBench x = new PotentialBench();
        // what is handed over is by place, and each call has variables of its own
        Check.function(x, 3, 5, 1, 2, 0, 1);
        Check.function(x, 3, 6, 1, 2, 6, 5, 2, 0, 1, 1);
        Check.function(x, 1, 6, 0, 6, 0, 6, 0, 0);
        Check.run(x, "handed over", x.run(0, 11, 22, 33), 0, 11, 13);
        x.cut(0, 0);
        Check.words(x, 0, 5, 1, 1, 2, 0);
        Check.run(x, "handed over", x.run(0, 11, 22, 33), 0, 33, 13);
        // the first part of "then" may make variables of the same number
        x = Check.bench(2, 6, 6, 2, 2, 1, 0, 3, 2, 0, 1, 3, 3, 2, 0, 1, 3);
        Check.run(x, "numbers again", x.run(0, 5, 0, 0), 0, 5, 9);
        // as many variables as there can be, and a call with the last ones
        x = new PotentialBench();
        x.function(3);
        for (int i = 0; i < 15; i++) {
            Check.words(x, 0, 6, 1, i);
        }
        Check.words(x, 0, 1, 17);
        Check.run(x, "18 variables", x.run(0, 5, 4, 7), 0, 7, 31);
        x.cut(0, 45);
        Check.words(x, 0, 1, 18);
        Check.due("19 variables", x.look(), -1);
        x.cut(0, 45);
        Check.words(x, 0, 5, 1, 16, 17);
        Check.function(x, 2, 3, 0, 4, 5, 0, 6, 5, 1, 2, 1, 1, 1);
        Check.run(x, "18 variables and a call", x.run(0, 5, 4, 7), 5, 7, 31 + 4 * 4 + 3);
        Check.due("18 variables, bound", x.bound(0), 1);
        // looking at a variable leaves it as it is
        x = Check.bench(1, 3, 0, 0, 3, 1, 1, 0, 1, 0);
        Check.run(x, "looked at", x.run(0, 6, 0, 0), 0, 6, 3);
    }

    private static void calls() {
        PotentialBench x = Check.bench(1, 3, 0, 0, 4, 7, 5, 0, 1);
        Check.run(x, "60 calls", x.run(0, 59, 0, 0), 59 * 7, 0, 59 * 3 + 2);
        Check.run(x, "61 calls", x.run(0, 60, 0, 0), 60 * 7, NO, 60 * 3);
        Check.run(x, "no calls after it", x.run(0, 0, 0, 0), 0, 0, 2);
        Check.run(x, "60 calls again", x.run(0, 59, 0, 0), 59 * 7, 0, 59 * 3 + 2);
        x = Check.bench(0, 5, 0);
        Check.run(x, "calls without end", x.run(0, 0, 0, 0), 0, NO, 60);
        // calls one after the other are not within one another
        x = new PotentialBench();
        Check.function(x, 1, 3, 0, 0, 6, 5, 1, 5, 0, 1);
        Check.function(x, 0, 4, 1, 0);
        Check.run(x, "one after the other", x.run(0, 58, 0, 0), 58, 0, 58 * 6 + 2);
        Check.run(x, "60 and 61", x.run(0, 59, 0, 0), 59, 0, 59 * 6 + 2);
        Check.run(x, "the 61st is the other one", x.run(0, 60, 0, 0), 59, NO, 59 * 4 + 59 * 2 + 3);
        // as deep as it goes: 14 nodes wait in each of 60 calls
        x = Check.bench(1, 3, 0, 0, 2, 2, 2, 2, 2, 2, 2, 2, 2, 2, 2, 2, 2, 2, 5, 0, 1);
        Check.run(x, "much waits", x.run(0, 59, 0, 0), 0, 59 * 14, 59 * 16 + 2);
        for (int i = 0; i < 3; i++) {
            Check.run(x, "much waits for nothing", x.run(0, 60, 0, 0), 0, NO, 60 * 16);
        }
        Check.run(x, "and nothing waits any more", x.run(0, 1, 0, 0), 0, 14, 18);
    }

    private static void stepLimit() {
        // 6 * 2^n - 4 steps for n elements
        PotentialBench x = new PotentialBench();
        Check.function(x, 1, 3, 0, 0, 6, 5, 0, 1, 5, 0, 1);
        Check.function(x, 3, 6, 5, 0, 0, 6, 5, 0, 1, 6, 5, 0, 2, 5, 2);
        // 37 steps
        Check.function(x, 0, 6);
        chain(x, 11);
        x.word(2, 6);
        chain(x, 12);
        chain(x, 12);
        Check.run(x, "n = 0", x.run(0, 0, 0, 0), 0, 0, 2);
        Check.run(x, "n = 11", x.run(0, 11, 0, 0), 0, 0, 12284);
        Check.run(x, "n = 12", x.run(0, 12, 0, 0), 0, NO, 20000);
        Check.run(x, "37 steps", x.run(2, 0, 0, 0), 0, 11, 37);
        Check.run(x, "20000 steps", x.run(1, 11, 10, 8), 0, 11, 20000);
        x.cut(2, 0);
        x.word(2, 6);
        chain(x, 11);
        x.word(2, 6);
        chain(x, 12);
        chain(x, 13);
        Check.run(x, "38 steps", x.run(2, 0, 0, 0), 0, 12, 38);
        Check.run(x, "20001 steps", x.run(1, 11, 10, 8), 0, NO, 20000);
        // the step that is not begun pays nothing, the one before it does
        x.cut(2, 0);
        x.word(2, 6);
        chain(x, 11);
        x.word(2, 6);
        chain(x, 12);
        for (int i = 0; i < 12; i++) {
            Check.words(x, 2, 4, i < 11 ? 1 : 100);
        }
        x.word(2, 0);
        Check.run(x, "38 steps, 12 paid", x.run(2, 0, 0, 0), 111, 0, 38);
        Check.run(x, "the 20000th is paid", x.run(1, 11, 10, 8), 111, NO, 20000);
        Check.run(x, "fewer", x.run(1, 11, 10, 7), 111, 0, 20001 - 768);
    }

    /** An expression of so many steps for function 2. */
    private static void chain(PotentialBench x, int steps) {
        for (int i = 1; i < steps; i++) {
            x.word(2, 2);
        }
        x.word(2, 0);
    }

    private static void latestRun() {
        PotentialBench x = Check.bench(1, 4, 9, 2, 1, 0);
        Check.due("before a run, cost", x.cost(), 0);
        Check.due("before a run, given", x.given(), NO);
        Check.due("before a run, steps", x.steps(), 0);
        Check.due("BAD", x.run(0, -1, 0, 0), BAD);
        Check.due("after a BAD one, cost", x.cost(), 0);
        Check.due("after a BAD one, given", x.given(), NO);
        Check.due("after a BAD one, steps", x.steps(), 0);
        Check.run(x, "a run", x.run(0, 4, 0, 0), 9, 5, 3);
        Check.due("BAD", x.run(0, 3001, 0, 0), BAD);
        Check.due("BAD", x.run(1, 0, 0, 0), BAD);
        x.word(0, 0);
        Check.due("BAD", x.run(0, 0, 0, 0), BAD);
        Check.due("a bound is no run", x.bound(0), BAD);
        Check.due("the latest that was not BAD, cost", x.cost(), 9);
        Check.due("the latest that was not BAD, given", x.given(), 5);
        Check.due("the latest that was not BAD, steps", x.steps(), 3);
        x.cut(0, 2);
        Check.words(x, 0, 5, 0, 0);
        Check.due("a bound is no run", x.bound(0), 0);
        Check.due("the latest run, cost", x.cost(), 9);
        Check.run(x, "too long", x.run(0, 1, 0, 0), 60 * 9, NO, 120);
        x.cut(0, 0);
        Check.due("BAD", x.run(0, 0, 0, 0), BAD);
        Check.due("too long stays, cost", x.cost(), 60 * 9);
        Check.due("too long stays, given", x.given(), NO);
        Check.due("too long stays, steps", x.steps(), 120);
    }
}
