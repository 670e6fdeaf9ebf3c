import java.lang.reflect.Field;
import java.math.BigInteger;
import java.util.Random;

/** The whole numbers of any size, against those of the library. */
public final class WholeTest {
    private static final BigInteger DIGIT = BigInteger.ONE.shiftLeft(31);
    private static final Random RANDOM = new Random(20);

    public static void main(String[] args) throws ReflectiveOperationException {
        long[] longs = {0, 1, -1, 2147483647, 2147483648L, -2147483648L, 4294967295L, 1L << 62, (1L << 62) - 1,
            Long.MAX_VALUE, Long.MIN_VALUE, Long.MIN_VALUE + 1};
        for (long value : longs) {
            PotentialBench.Whole x = new PotentialBench.Whole();
            x.set(value);
            same("set", x, BigInteger.valueOf(value));
            Check.due("lowest", x.lowest(), value);
            if (x.isSmall()) {
                Check.due("small", x.small(), value);
            }
        }
        for (int i = 0; i < 20000; i++) {
            BigInteger a = any();
            BigInteger b = i % 7 == 0 ? a : i % 7 == 1 ? a.negate() : any();
            both(a, b);
            both(a.multiply(b), b);
            both(a.multiply(b).subtract(BigInteger.ONE), b);
        }
        Check.end("WholeTest");
    }

    private static void both(BigInteger a, BigInteger b) throws ReflectiveOperationException {
        PotentialBench.Whole x = whole(a);
        PotentialBench.Whole y = whole(b);
        Check.due("sign", x.sign(), a.signum());
        Check.due("lowest", x.lowest(), a.longValue());
        Check.due("compare", x.compare(y), a.compareTo(b));
        PotentialBench.Whole z = whole(any());
        z.multiply(x, y);
        same("multiply", z, a.multiply(b));
        z = whole(a);
        z.subtract(y);
        same("subtract", z, a.subtract(b));
        z = new PotentialBench.Whole();
        z.subtract(y);
        same("subtract", z, b.negate());
        z = new PotentialBench.Whole();
        z.multiply(x, y);
        same("multiply", z, a.multiply(b));
        z.copy(x);
        z.negate();
        same("negate", z, a.negate());
        z.copy(x);
        z.divide(y, whole(any()), whole(any()));
        same("divide", z, b.signum() == 0 ? BigInteger.ZERO : a.divide(b));
        same("what is not changed", x, a);
        same("what is not changed", y, b);
    }

    /** Up to 24 digits, with many digits that are all ones or none. */
    private static BigInteger any() {
        BigInteger x = BigInteger.ZERO;
        int size = RANDOM.nextInt(RANDOM.nextInt(4) == 0 ? 25 : 5);
        for (int i = 0; i < size; i++) {
            int digit = RANDOM.nextInt() >>> 1;
            int kind = RANDOM.nextInt(6);
            long used = kind == 0 ? 0 : kind == 1 ? 2147483647 : kind == 2 ? 1 << 30 : kind == 3 ? 1 : digit;
            x = x.multiply(DIGIT).add(BigInteger.valueOf(used));
        }
        return RANDOM.nextBoolean() ? x : x.negate();
    }

    private static PotentialBench.Whole whole(BigInteger value) {
        PotentialBench.Whole x = new PotentialBench.Whole();
        PotentialBench.Whole by = new PotentialBench.Whole();
        PotentialBench.Whole less = new PotentialBench.Whole();
        PotentialBench.Whole product = new PotentialBench.Whole();
        by.set(1L << 31);
        for (int i = value.abs().bitLength() / 31; i >= 0; i--) {
            long digit = value.abs().shiftRight(31 * i).mod(DIGIT).longValue();
            product.multiply(x, by);
            less.set(-digit);
            product.subtract(less);
            x.copy(product);
        }
        if (value.signum() < 0) {
            x.negate();
        }
        return x;
    }

    private static void same(String call, PotentialBench.Whole got, BigInteger want)
            throws ReflectiveOperationException {
        int[] digits = (int[]) field("digits").get(got);
        int size = (Integer) field("size").get(got);
        BigInteger value = BigInteger.ZERO;
        for (int i = size - 1; i >= 0; i--) {
            value = value.multiply(DIGIT).add(BigInteger.valueOf(digits[i]));
        }
        if (got.sign() < 0) {
            value = value.negate();
        }
        Check.due(call + " of " + want + ": " + value, value.equals(want), true);
        Check.due(call + ": sign", got.sign(), want.signum());
        Check.due(call + ": digits", size, (want.abs().bitLength() + 30) / 31);
    }

    private static Field field(String name) throws ReflectiveOperationException {
        Field field = PotentialBench.Whole.class.getDeclaredField(name);
        field.setAccessible(true);
        return field;
    }
}
