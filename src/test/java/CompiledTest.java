import java.io.IOException;
import java.util.ArrayList;
import java.util.List;
import java.util.Map;
import java.util.Set;
import java.util.TreeMap;
import java.util.TreeSet;

/** Rules of LANGUAGE.md that can be seen from the compiled class: what it calls, how deep, and what it holds. */
public final class CompiledTest {
    private static final Set<String> LIBRARY = Set.of(
        "java/lang/Object.<init>", "java/lang/System.arraycopy", "java/util/Arrays.fill", "java/util/Arrays.copyOf",
        "java/util/Arrays.copyOfRange", "java/lang/Integer.compare", "java/lang/Integer.bitCount",
        "java/lang/Long.compare");
    private static final Set<String> FACE = Set.of("function", "word", "cut", "look", "place", "run", "cost", "given",
        "steps", "bound", "told", "scaled", "covers");
    private static final Set<String> CONSTANTS = Set.of("I", "J", "Z", "C", "Ljava/lang/String;", "[I", "[J", "[C", "[B");
    private static final int THROW = 0xbf;
    private static final int INVOKE_DYNAMIC = 0xba;
    private static final int ENTER_MONITOR = 0xc2;
    private static final int CAST = 0xc0;
    private static final int MOST_PARAMETERS = 7;
    private static final int MOST_FIELDS = 20;
    private static final int MOST_CLASSES = 12;
    private static final int MOST_DEEP = 8;

    private static final Map<String, Set<String>> CALLS = new TreeMap<>();
    private static final Map<String, Set<String>> REACHED = new TreeMap<>();

    public static void main(String[] args) throws IOException {
        List<ClassFile> classes = new ArrayList<>();
        classes.add(ClassFile.of(PotentialBench.class));
        for (Class<?> inside : PotentialBench.class.getDeclaredClasses()) {
            classes.add(ClassFile.of(inside));
            Check.due(inside + " has no classes inside", inside.getDeclaredClasses().length, 0);
        }
        Check.due("classes: " + classes.size(), classes.size() <= MOST_CLASSES, true);
        for (ClassFile read : classes) {
            fields(read);
            for (ClassFile.Member method : read.methods) {
                method(read, method);
            }
        }
        deep();
        Check.end("CompiledTest");
    }

    private static void fields(ClassFile read) {
        int own = 0;
        for (ClassFile.Member field : read.fields) {
            String told = read.name + "." + field.name;
            if (field.isStatic()) {
                Check.due(told + " is a constant", (field.flags & ClassFile.FINAL) != 0, true);
                Check.due(told + " is of a type that a constant may have", CONSTANTS.contains(field.type), true);
            } else {
                own++;
            }
            boolean isOwn = field.type.matches("\\[?LPotentialBench\\$\\w+;");
            Check.due(told + " is of a type that there may be", isOwn || field.type.matches("\\[{0,2}[IJSBCZ]"), true);
        }
        Check.due(read.name + " has few fields", own <= MOST_FIELDS, true);
    }

    private static void method(ClassFile read, ClassFile.Member method) {
        String told = read.name + "." + method.name;
        boolean isFace = read.name.equals("PotentialBench");
        Check.due(told + " is no static block", method.name.equals("<clinit>"), false);
        Check.due(told + " bears no name of the face", FACE.contains(method.name) && (!isFace || isHidden(method)), false);
        Check.due(told + " is none that every object has",
            Set.of("equals", "hashCode", "toString").contains(method.name), false);
        Check.due(told + " takes few", parameters(method.type) <= MOST_PARAMETERS, true);
        Check.due(told + " catches nothing", method.catches, 0);
        for (int code : new int[] {THROW, INVOKE_DYNAMIC, ENTER_MONITOR, CAST}) {
            Check.due(told + " has no instruction " + code, method.codes.contains(code), false);
        }
        for (String called : method.calls) {
            Check.due(told + " calls " + called, called.startsWith("PotentialBench") || LIBRARY.contains(called), true);
        }
        CALLS.computeIfAbsent(told, any -> new TreeSet<>()).addAll(method.calls);
    }

    private static boolean isHidden(ClassFile.Member method) {
        return (method.flags & 1) == 0;
    }

    private static int parameters(String type) {
        String taken = type.substring(1, type.indexOf(')'));
        return taken.replaceAll("\\[*(L[^;]*;|[A-Z])", "x").length();
    }

    /** Methods that call one another are one level here: how deep they go is told by the depth that they carry. */
    private static void deep() {
        for (String method : CALLS.keySet()) {
            REACHED.put(method, new TreeSet<>());
            reach(method, REACHED.get(method));
        }
        int deepest = 0;
        for (String name : FACE) {
            int depth = depth("PotentialBench." + name);
            Check.due(name + " goes " + depth + " deep", depth <= MOST_DEEP, true);
            deepest = Math.max(deepest, depth);
        }
        System.out.println("CompiledTest: " + CALLS.size() + " methods, calls up to " + deepest + " deep");
    }

    private static void reach(String method, Set<String> into) {
        for (String called : CALLS.getOrDefault(method, Set.of())) {
            if (into.add(called)) {
                reach(called, into);
            }
        }
    }

    private static boolean isRound(String method, String other) {
        return method.equals(other) || REACHED.getOrDefault(method, Set.of()).contains(other)
            && REACHED.getOrDefault(other, Set.of()).contains(method);
    }

    private static int depth(String method) {
        int below = 0;
        for (String other : CALLS.keySet()) {
            if (isRound(method, other)) {
                for (String called : CALLS.get(other)) {
                    below = isRound(method, called) ? below : Math.max(below, depth(called));
                }
            }
        }
        return below + 1;
    }
}
