import java.lang.reflect.Constructor;
import java.lang.reflect.Field;
import java.lang.reflect.Method;
import java.math.BigInteger;
import java.util.ArrayList;
import java.util.List;
import java.util.Random;

/** The search for the best numbers alone, with conditions of any kind: such as no body has, and larger ones. */
public final class SolverTest {
    private static int found;
    private static int none;
    private static int longest;

    public static void main(String[] args) throws ReflectiveOperationException {
        int count = args.length > 0 ? Integer.parseInt(args[0]) : 4000;
        for (int seed = 1; seed <= count; seed++) {
            Random random = new Random(seed);
            boolean isWide = seed % 5 == 0;
            int unknowns = 4 + random.nextInt(isWide ? 9 : 5);
            int conditions = 1 + random.nextInt(isWide ? 20 : 10);
            compare(random, seed, unknowns, conditions, isWide ? 10000 : 1 + random.nextInt(6));
        }
        System.out.println("SolverTest: found " + found + ", none " + none + ", up to " + longest + " bits");
        Check.due("all kinds of answers came", found > 0 && none > 0 && longest > 100, true);
        Check.end("SolverTest");
    }

    private static void compare(Random random, int seed, int unknowns, int conditions, int most)
            throws ReflectiveOperationException {
        Class<?> needsClass = Class.forName("PotentialBench$Needs");
        Class<?> solverClass = Class.forName("PotentialBench$Solver");
        Object needs = part(new PotentialBench(), "needs");
        int[][] rows = (int[][]) field(needsClass, "conditions").get(needs);
        List<Oracle.Fraction[]> same = new ArrayList<>();
        for (int i = 0; i < conditions; i++) {
            Oracle.Fraction[] row = new Oracle.Fraction[unknowns + 1];
            for (int j = 0; j <= unknowns; j++) {
                int factor = random.nextInt(3) == 0 ? 0 : random.nextInt(2 * most + 1) - most;
                rows[i][j == 0 ? 40 : j - 1] = factor;
                row[j] = Oracle.Fraction.of(factor);
            }
            same.add(row);
        }
        field(needsClass, "unknowns").setInt(needs, unknowns);
        field(needsClass, "count").setInt(needs, conditions);
        int first = random.nextInt(unknowns - 3);
        int lists = random.nextInt(4);

        Constructor<?> make = solverClass.getDeclaredConstructor();
        make.setAccessible(true);
        Object solver = make.newInstance();
        method(solverClass, "load", needsClass, int.class, int.class).invoke(solver, needs, first, lists);
        boolean answer = (Boolean) method(solverClass, "solve").invoke(solver);
        Oracle.Fraction[] best = Oracle.best(same, first + 1, first + 1 + lists);
        Check.due(seed + " solve", answer, best != null);
        if (best == null) {
            none++;
            return;
        }
        found++;
        BigInteger under = value((PotentialBench.Whole) field(solverClass, "under").get(solver));
        for (int i = 0; i <= lists; i++) {
            PotentialBench.Whole up = new PotentialBench.Whole();
            method(solverClass, "tell", int.class, PotentialBench.Whole.class).invoke(solver, i, up);
            boolean isBest = value(up).multiply(best[i].under).equals(under.multiply(best[i].up));
            Check.due(seed + " unknown " + i + " is " + value(up) + "/" + under + ", due is " + best[i], isBest, true);
        }
        longest = Math.max(longest, under.bitLength());
    }

    private static BigInteger value(PotentialBench.Whole whole) throws ReflectiveOperationException {
        int[] digits = (int[]) field(PotentialBench.Whole.class, "digits").get(whole);
        BigInteger value = BigInteger.ZERO;
        for (int i = field(PotentialBench.Whole.class, "size").getInt(whole) - 1; i >= 0; i--) {
            value = value.shiftLeft(31).add(BigInteger.valueOf(digits[i]));
        }
        return whole.sign() < 0 ? value.negate() : value;
    }

    private static Object part(PotentialBench x, String name) throws ReflectiveOperationException {
        return field(PotentialBench.class, name).get(x);
    }

    private static Field field(Class<?> of, String name) throws ReflectiveOperationException {
        Field field = of.getDeclaredField(name);
        field.setAccessible(true);
        return field;
    }

    private static Method method(Class<?> of, String name, Class<?>... takes) throws ReflectiveOperationException {
        Method method = of.getDeclaredMethod(name, takes);
        method.setAccessible(true);
        return method;
    }
}
