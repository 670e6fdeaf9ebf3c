import java.util.Arrays;
import java.util.Random;

/** Calls of all kinds in any order, with right and wrong inputs: each answer is compared with what the Model says. */
public final class CallsTest {
    private static final int MOST_CALLS = 512;
    private static final int[] EDGES = {Integer.MIN_VALUE, Integer.MIN_VALUE + 1, -1000, -1, 0, 1, 2, 3, 4, 5, 6, 7, 8, 31,
        32, 39, 40, 41, 64, 199, 200, 201, 1000, 1001, 2999, 3000, 3001, Integer.MAX_VALUE - 1, Integer.MAX_VALUE};
    /** How many of each answer there were: FULL, BAD, 0 and 1; BAD, 0 and 1. */
    private static final int[] BOUNDS = new int[5];
    private static final int[] RUNS = new int[3];
    private final PotentialBench x = new PotentialBench();
    private final Model model = new Model();
    private final Random random;
    private final Programs programs;
    private final long seed;
    private int calls;

    private CallsTest(long seed) {
        this.seed = seed;
        this.random = new Random(seed);
        this.programs = new Programs(-seed);
    }

    public static void main(String[] args) {
        int count = args.length > 0 ? Integer.parseInt(args[0]) : 1000;
        long first = args.length > 1 ? Long.parseLong(args[1]) : 1;
        for (long seed = first; seed < first + count; seed++) {
            new CallsTest(seed).use();
        }
        System.out.println("CallsTest: bounds " + Arrays.toString(BOUNDS) + ", runs " + Arrays.toString(RUNS));
        boolean seen = BOUNDS[0] > 0 && BOUNDS[2] > 0 && BOUNDS[3] > 0 && BOUNDS[4] > 0 && RUNS[1] > 0 && RUNS[2] > 0;
        Check.due("all kinds of answers came", seen, true);
        Check.end("CallsTest");
    }

    private void use() {
        // the largest turn but for a new body is three calls
        while (calls + 3 <= MOST_CALLS) {
            int turn = random.nextInt(40);
            if (turn == 0) {
                due("function", function(any(4)));
            } else if (turn < 4) {
                mend();
            } else if (turn == 4) {
                due("word", word(any(model.takes.size()), any(7)));
            } else if (turn == 5) {
                cutSome();
            } else {
                ask(turn % 9);
            }
        }
    }

    private void ask(int kind) {
        int f = any(model.takes.size());
        int a = any(20);
        int b = any(10);
        int c = any(5);
        switch (kind) {
            case 0:
                due("look", pair(x.look(), model.look()));
                break;
            case 1:
                due("place", pair(x.place(), model.place()));
                break;
            case 2:
            case 3:
                int ended = model.run(f, a, b, c);
                RUNS[ended + 1]++;
                due("run", pair(x.run(f, a, b, c), ended));
                break;
            case 4:
                due("cost", pair(x.cost(), model.cost()));
                due("given", pair(x.given(), model.given()));
                due("steps", pair(x.steps(), model.steps()));
                break;
            case 5:
                int answer = model.bound(f);
                BOUNDS[answer + 3]++;
                due("bound", pair(x.bound(f), answer));
                break;
            case 6:
                due("told", pair(x.told(a % 3), model.told(a % 3)));
                break;
            case 7:
                int k = any(40);
                due("scaled", pair(x.scaled(c, k), model.scaled(c, k)));
                break;
            default:
                long n = random.nextInt(4) == 0 ? random.nextLong() : random.nextInt(2000) - 100;
                due("covers", pair(x.covers(a, b, c, n), model.covers(a, b, c, n)));
                break;
        }
    }

    /** Mostly up to a number, else one of the edges. */
    private int any(int most) {
        return random.nextInt(12) > 0 ? random.nextInt(most + 1) : EDGES[random.nextInt(EDGES.length)];
    }

    /** Another body, mostly a right one, for the first function that has a wrong one, or for any. */
    private void mend() {
        if (model.takes.isEmpty()) {
            due("function", function(random.nextInt(4)));
        }
        int wrong = model.firstWrong();
        int f = wrong >= 0 ? wrong : random.nextInt(model.takes.size());
        programs.takes = model.takes.stream().mapToInt(lists -> lists).toArray();
        programs.otherBodies();
        if (calls + 1 + programs.words[f].length > MOST_CALLS) {
            return;
        }
        due("cut", pair(x.cut(f, 0), model.cut(f, 0)));
        for (int word : programs.words[f]) {
            due("word", word(f, word));
        }
    }

    private void cutSome() {
        int f = any(model.takes.size());
        int n = any(40);
        due("cut", pair(x.cut(f, n), model.cut(f, n)));
    }

    private long[] function(int takes) {
        return pair(x.function(takes), model.function(takes));
    }

    private long[] word(int f, int v) {
        return pair(x.word(f, v), model.word(f, v));
    }

    private static long[] pair(long got, long want) {
        return new long[] {got, want};
    }

    private static long[] pair(boolean got, boolean want) {
        return pair(got ? 1 : 0, want ? 1 : 0);
    }

    private void due(String name, long[] answers) {
        calls++;
        Check.due(seed + ", call " + calls + ", " + name, answers[0], answers[1]);
    }
}
