import java.util.ArrayList;
import java.util.List;

/** Counts answers that are not as due, and prints them. */
final class Check {
    private static int wrong = 0;
    private static int all = 0;
    private static int allBefore = 0;
    private static final List<String> SAID = new ArrayList<>();

    private Check() {
    }

    /** What comes next looks at these words of the document. */
    static void says(String words) {
        looked();
        SAID.add(words);
        allBefore = all;
    }

    static List<String> said() {
        return SAID;
    }

    private static void looked() {
        if (!SAID.isEmpty() && all == allBefore) {
            wrong++;
            System.out.println("nothing looks at: " + SAID.get(SAID.size() - 1));
        }
    }

    static void due(String call, long got, long want) {
        all++;
        if (got != want) {
            wrong++;
            if (wrong <= 50) {
                String sentence = SAID.isEmpty() ? "" : "\"" + SAID.get(SAID.size() - 1) + "\": ";
                System.out.println(sentence + call + " answered " + got + ", due is " + want);
            }
        }
    }

    static void due(String call, boolean got, boolean want) {
        due(call, got ? 1 : 0, want ? 1 : 0);
    }

    /** A new function with a body; its number. */
    static int function(PotentialBench x, int takes, int... words) {
        int f = x.function(takes);
        words(x, f, words);
        return f;
    }

    static void words(PotentialBench x, int f, int... words) {
        for (int word : words) {
            x.word(f, word);
        }
    }

    /** Another body for a function. */
    static void body(PotentialBench x, int f, int... words) {
        x.cut(f, 0);
        words(x, f, words);
    }

    /** An object with one function. */
    static PotentialBench bench(int takes, int... words) {
        PotentialBench x = new PotentialBench();
        function(x, takes, words);
        return x;
    }

    static void run(PotentialBench x, String name, int answer, long cost, int given, int steps) {
        due(name + " run", answer, given == PotentialBench.NO ? 1 : 0);
        due(name + " cost()", x.cost(), cost);
        due(name + " given()", x.given(), given);
        due(name + " steps()", x.steps(), steps);
    }

    static void end(String name) {
        looked();
        System.out.println(name + ": " + all + " answers, " + wrong + " not as due");
        if (wrong != 0) {
            System.exit(1);
        }
    }
}
