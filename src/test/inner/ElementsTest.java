import java.lang.reflect.Field;
import java.lang.reflect.InvocationTargetException;
import java.lang.reflect.Method;

/**
 * "or a list more than 30000 elements": from lengths up to 3000 no list comes that far within 20000 steps, so this
 * hands longer ones to what runs functions, without the look at lengths that run() takes before.
 */
public final class ElementsTest {
    private static final int NO = PotentialBench.NO;

    public static void main(String[] args) throws ReflectiveOperationException {
        PotentialBench x = Check.bench(1, 4, 5, 2, 1, 0);
        Check.due("look", x.look(), 0);
        run(x, 29998, 5, 29999);
        run(x, 29999, 5, 30000);
        run(x, 30000, 5, NO);
        x = Check.bench(1, 2, 4, 5, 2, 2, 1, 0);
        Check.due("look", x.look(), 0);
        run(x, 29997, 5, 30000);
        run(x, 29998, 5, NO);
        // a list of 30000 is no longer after it was asked, handed over or named
        x = Check.bench(1, 3, 0, 0, 6, 2, 1, 1, 5, 1, 2);
        Check.function(x, 1, 1, 0);
        Check.due("look", x.look(), 0);
        run(x, 30000, 0, 30000);
        run(x, 30001, 0, NO);
        Check.due("run", x.run(0, 3000, 0, 0), 0);
        Check.due("given", x.given(), 3000);
        Check.end("ElementsTest");
    }

    private static void run(PotentialBench x, int length, long cost, int given) throws ReflectiveOperationException {
        Field field = PotentialBench.class.getDeclaredField("runner");
        field.setAccessible(true);
        Object runner = field.get(x);
        call(runner, "start", 0, length, 0, 0);
        boolean answer = (Boolean) call(runner, "finish");
        Check.due(length + ", ends", answer, given != NO);
        Check.due(length + ", cost", x.cost(), cost);
        Check.due(length + ", given", x.given(), given);
    }

    private static Object call(Object runner, String name, Object... numbers)
            throws InvocationTargetException, IllegalAccessException {
        for (Method method : runner.getClass().getDeclaredMethods()) {
            if (method.getName().equals(name) && method.getParameterCount() == numbers.length) {
                method.setAccessible(true);
                return method.invoke(runner, numbers);
            }
        }
        return null;
    }
}
