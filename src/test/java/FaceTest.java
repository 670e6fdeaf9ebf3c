import java.lang.reflect.Constructor;
import java.lang.reflect.Field;
import java.lang.reflect.Method;
import java.lang.reflect.Modifier;
import java.util.Arrays;
import java.util.Set;
import java.util.TreeSet;

/** The public face is the document's, and nothing else of the class can be seen. */
public final class FaceTest {
    private static final String[] FACE = {
        "int function(int)", "int word(int,int)", "boolean cut(int,int)", "int look()", "int place()",
        "int run(int,int,int,int)", "long cost()", "int given()", "int steps()", "int bound(int)",
        "int told(int)", "long scaled(int,int)", "int covers(int,int,int,long)"};

    public static void main(String[] args) {
        Check.due("BAD", PotentialBench.BAD, -1);
        Check.due("NO", PotentialBench.NO, -2);
        Check.due("FULL", PotentialBench.FULL, -3);
        Class<?> face = PotentialBench.class;
        Check.due("public and final", face.getModifiers(), Modifier.PUBLIC | Modifier.FINAL);
        Set<String> methods = new TreeSet<>();
        for (Method method : face.getDeclaredMethods()) {
            if (!Modifier.isPrivate(method.getModifiers())) {
                methods.add(told(method));
                Check.due(method + " is public alone", method.getModifiers(), Modifier.PUBLIC);
            }
        }
        Check.due("methods " + methods, methods.equals(new TreeSet<>(Arrays.asList(FACE))), true);
        int constants = 0;
        for (Field field : face.getDeclaredFields()) {
            if (!Modifier.isPrivate(field.getModifiers())) {
                constants++;
            }
        }
        Check.due("fields that can be seen", constants, 3);
        Constructor<?>[] constructors = face.getDeclaredConstructors();
        Check.due("constructors", constructors.length, 1);
        Check.due("what the constructor takes", constructors[0].getParameterCount(), 0);
        for (Class<?> inside : face.getDeclaredClasses()) {
            Check.due(inside + " is static", Modifier.isStatic(inside.getModifiers()), true);
            Check.due(inside + " is hidden", Modifier.isPublic(inside.getModifiers()), false);
        }
        Check.end("FaceTest");
    }

    private static String told(Method method) {
        StringBuilder text = new StringBuilder();
        for (Class<?> parameter : method.getParameterTypes()) {
            text.append(text.length() == 0 ? "" : ",").append(parameter.getName());
        }
        return method.getReturnType().getName() + " " + method.getName() + "(" + text + ")";
    }
}
