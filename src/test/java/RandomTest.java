import java.math.BigInteger;
import java.util.Random;

/** All promises: programs made by chance, each answer compared with what the Oracle says. */
public final class RandomTest {
    private static final int BAD = PotentialBench.BAD;
    private static final int NO = PotentialBench.NO;
    private static final int FULL = PotentialBench.FULL;
    /** Programs whose best bounds are missed where the order of the unknowns or their places are not kept. */
    private static final long[] RARE = {2815, 6024, 11262, 13727, 13787, 14061, 15149, 15793};
    private static int found;
    private static int none;
    private static int full;
    private static int tooLong;
    private static int wrong;
    private static int fractions;
    private static int wide;

    public static void main(String[] args) {
        int count = args.length > 0 ? Integer.parseInt(args[0]) : 1500;
        long first = args.length > 1 ? Long.parseLong(args[1]) : 1;
        for (long seed = first; seed < first + count; seed++) {
            compare(seed);
        }
        for (long seed : RARE) {
            compare(seed);
        }
        System.out.println("RandomTest: bounds " + found + ", none " + none + ", full " + full + ", too long "
            + tooLong + ", wrong " + wrong + ", fractions " + fractions + ", beyond 64 bits " + wide);
        // a test that has not seen them all says nothing
        boolean seen = found > 0 && none > 0 && full > 0 && tooLong > 0 && wrong > 0 && fractions > 0 && wide > 0;
        Check.due("all kinds of answers came", seen, true);
        Check.end("RandomTest");
    }

    private static void compare(long seed) {
        Programs program = new Programs(seed);
        program.anyShape();
        compare(program, seed);
        program.heavy();
        compare(program, -seed);
    }

    private static void compare(Programs program, long seed) {
        PotentialBench x = new PotentialBench();
        for (int takes : program.takes) {
            x.function(takes);
        }
        for (int f = 0; f < program.takes.length; f++) {
            Check.words(x, f, program.words[f]);
        }
        Oracle oracle = new Oracle(program.takes, program.words);
        Check.due(seed + " look", x.look(), oracle.look);
        Check.due(seed + " place", x.place(), oracle.place);
        if (oracle.look != 0) {
            wrong++;
            Check.due(seed + " run", x.run(0, 0, 0, 0), BAD);
            Check.due(seed + " bound", x.bound(0), BAD);
            return;
        }
        oracle.gather();
        for (int f = 0; f < program.takes.length; f++) {
            compareRuns(x, oracle, f, program.random, seed);
            compareBounds(x, oracle, f, program, seed);
        }
    }

    private static void compareRuns(PotentialBench x, Oracle oracle, int f, Random random, long seed) {
        int[] most = {4, 20, 100, 3001};
        for (int m : most) {
            int[] l = {random.nextInt(m), random.nextInt(20), random.nextInt(10)};
            int want = oracle.run(f, l);
            Check.due(seed + " run", x.run(f, l[0], l[1], l[2]), want);
            Check.due(seed + " cost", x.cost(), oracle.cost);
            Check.due(seed + " given", x.given(), oracle.given);
            Check.due(seed + " steps", x.steps(), oracle.steps);
            tooLong += want;
        }
    }

    private static void compareBounds(PotentialBench x, Oracle oracle, int f, Programs program, long seed) {
        int answer = x.bound(f);
        boolean isFull = oracle.unknowns > 40 || oracle.conditions.size() > 90;
        Oracle.Fraction[] best = isFull ? null : oracle.best(f);
        Check.due(seed + " bound", answer, isFull ? FULL : best == null ? 0 : 1);
        Check.due(seed + " unknowns", x.told(0), isFull ? NO : oracle.unknowns);
        Check.due(seed + " conditions", x.told(1), isFull ? NO : oracle.conditions.size());
        full += isFull ? 1 : 0;
        none += !isFull && best == null ? 1 : 0;
        int takes = program.takes[f];
        for (int i = -1; i <= 4; i++) {
            Oracle.Fraction part = best == null ? null : i == 3 ? best[takes] : i >= 0 && i < takes ? best[i] : null;
            int[] powers = {0, 1, 40, program.random.nextInt(41)};
            for (int k : powers) {
                Check.due(seed + " scaled " + i + " " + k, x.scaled(i, k), part == null ? NO : part.scaled(k));
            }
            if (part != null) {
                fractions += part.under.equals(BigInteger.ONE) ? 0 : 1;
                wide += part.up.shiftLeft(40).divide(part.under).bitLength() > 64 ? 1 : 0;
            }
        }
        if (best != null) {
            found++;
            compareCovers(x, best, program.random, seed);
            compareCost(x, f, seed);
        }
    }

    private static void compareCovers(PotentialBench x, Oracle.Fraction[] best, Random random, long seed) {
        for (int turn = 0; turn < 5; turn++) {
            int most = turn < 3 ? 10 : Integer.MAX_VALUE;
            int[] l = {random.nextInt(most), random.nextInt(most), random.nextInt(most)};
            BigInteger reached = sum(best, l).floor();
            if (reached.bitLength() > 62) {
                Check.due(seed + " covers the most", x.covers(l[0], l[1], l[2], Long.MAX_VALUE),
                    reached.bitLength() > 63 ? 1 : 0);
                continue;
            }
            Check.due(seed + " covers", x.covers(l[0], l[1], l[2], reached.longValue()), 1);
            Check.due(seed + " covers", x.covers(l[0], l[1], l[2], reached.longValue() + 1), 0);
        }
    }

    /** What the bounds are for: where they are found, no run that ends costs more. */
    private static void compareCost(PotentialBench x, int f, long seed) {
        for (int n = 0; n < 8; n++) {
            int[] l = {n, 8 - n, n % 3};
            if (x.run(f, l[0], l[1], l[2]) == 0) {
                Check.due(seed + " the cost is covered", x.covers(l[0], l[1], l[2], x.cost()), 1);
            }
        }
    }

    private static Oracle.Fraction sum(Oracle.Fraction[] best, int[] lengths) {
        Oracle.Fraction sum = best[best.length - 1];
        for (int i = 0; i < best.length - 1; i++) {
            sum = sum.plus(best[i].times(Oracle.Fraction.of(lengths[i])));
        }
        return sum;
    }
}
