/** One object with one program after the other: nothing of those before is left, whichever was larger. */
public final class AgainTest {
    private static final int NO = PotentialBench.NO;
    private static final int FULL = PotentialBench.FULL;
    private static final int MOST_CALLS = 512;
    private static int programs;

    public static void main(String[] args) {
        int count = args.length > 0 ? Integer.parseInt(args[0]) : 400;
        for (long seed = 1; seed <= count; seed++) {
            use(seed);
        }
        System.out.println("AgainTest: " + programs + " programs in " + count + " objects");
        Check.due("several programs for each object", programs > 2 * count, true);
        Check.end("AgainTest");
    }

    private static void use(long seed) {
        Programs program = new Programs(seed);
        program.anyShape();
        PotentialBench x = new PotentialBench();
        for (int takes : program.takes) {
            x.function(takes);
        }
        int functions = program.takes.length;
        int calls = functions;
        while (calls + cost(program) <= MOST_CALLS) {
            calls += cost(program);
            programs++;
            for (int f = 0; f < functions; f++) {
                Check.body(x, f, program.words[f]);
            }
            compare(x, new Oracle(program.takes, program.words), functions, seed);
            program.otherBodies();
        }
    }

    /** How many calls a program takes at most. */
    private static int cost(Programs program) {
        int calls = 2;
        for (int[] words : program.words) {
            calls += 1 + words.length + 4 + 7;
        }
        return calls;
    }

    private static void compare(PotentialBench x, Oracle oracle, int functions, long seed) {
        Check.due(seed + " look", x.look(), oracle.look);
        Check.due(seed + " place", x.place(), oracle.place);
        if (oracle.look != 0) {
            return;
        }
        oracle.gather();
        boolean isFull = oracle.unknowns > 40 || oracle.conditions.size() > 90;
        for (int f = 0; f < functions; f++) {
            Check.due(seed + " run", x.run(f, 9, 4, 6), oracle.run(f, 9, 4, 6));
            Check.due(seed + " cost", x.cost(), oracle.cost);
            Check.due(seed + " given", x.given(), oracle.given);
            Check.due(seed + " steps", x.steps(), oracle.steps);
            Oracle.Fraction[] best = isFull ? null : oracle.best(f);
            Check.due(seed + " bound", x.bound(f), isFull ? FULL : best == null ? 0 : 1);
            Check.due(seed + " unknowns", x.told(0), isFull ? NO : oracle.unknowns);
            Check.due(seed + " conditions", x.told(1), isFull ? NO : oracle.conditions.size());
            for (int i = 0; i <= 3; i++) {
                Oracle.Fraction part = best == null ? null : i == 3 ? best[best.length - 1] : i < best.length - 1 ? best[i] : null;
                Check.due(seed + " scaled " + i, x.scaled(i, 20), part == null ? NO : part.scaled(20));
            }
        }
    }
}
