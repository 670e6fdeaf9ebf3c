import java.math.BigInteger;
import java.util.ArrayList;
import java.util.List;

/** The whole face a second time, over the Oracle: what each call has to answer in each state. */
final class Model {
    private static final int BAD = PotentialBench.BAD;
    private static final int NO = PotentialBench.NO;
    private static final int FULL = PotentialBench.FULL;

    final List<Integer> takes = new ArrayList<>();
    final List<List<Integer>> words = new ArrayList<>();
    private int place = NO;
    private long cost;
    private int given = NO;
    private int steps;
    private int unknowns = NO;
    private int conditions = NO;
    private Oracle.Fraction[] best;

    int function(int lists) {
        if (lists < 0 || lists > 3) {
            return BAD;
        }
        if (takes.size() == 4) {
            return FULL;
        }
        takes.add(lists);
        words.add(new ArrayList<>());
        return takes.size() - 1;
    }

    int word(int f, int v) {
        if (!isThere(f)) {
            return BAD;
        }
        if (words.get(f).size() == 200) {
            return FULL;
        }
        words.get(f).add(v);
        return words.get(f).size();
    }

    boolean cut(int f, int n) {
        if (!isThere(f) || n < 0 || n > words.get(f).size()) {
            return false;
        }
        words.set(f, new ArrayList<>(words.get(f).subList(0, n)));
        return true;
    }

    int look() {
        Oracle oracle = oracle();
        place = oracle.place;
        return oracle.look;
    }

    int place() {
        return place;
    }

    /** The first function whose body is wrong, or -1, without a look() that place() would tell of. */
    int firstWrong() {
        int look = oracle().look;
        return look == 0 ? -1 : -1 - look;
    }

    int run(int f, int... lengths) {
        if (!isThere(f)) {
            return BAD;
        }
        for (int i = 0; i < takes.get(f); i++) {
            if (lengths[i] < 0 || lengths[i] > 3000) {
                return BAD;
            }
        }
        Oracle oracle = oracle();
        if (oracle.look != 0) {
            return BAD;
        }
        int answer = oracle.run(f, lengths);
        cost = oracle.cost;
        given = oracle.given;
        steps = oracle.steps;
        return answer;
    }

    long cost() {
        return cost;
    }

    int given() {
        return given;
    }

    int steps() {
        return steps;
    }

    int bound(int f) {
        best = null;
        unknowns = NO;
        conditions = NO;
        Oracle oracle = oracle();
        if (!isThere(f) || oracle.look != 0) {
            return BAD;
        }
        oracle.gather();
        if (oracle.unknowns > 40 || oracle.conditions.size() > 90) {
            return FULL;
        }
        unknowns = oracle.unknowns;
        conditions = oracle.conditions.size();
        best = oracle.best(f);
        return best == null ? 0 : 1;
    }

    int told(int what) {
        return what == 0 ? unknowns : what == 1 ? conditions : NO;
    }

    long scaled(int i, int k) {
        if (best == null || k < 0 || k > 40 || i < 0 || i > 3 || i < 3 && i >= best.length - 1) {
            return NO;
        }
        return best[i == 3 ? best.length - 1 : i].scaled(k);
    }

    int covers(int a, int b, int c, long n) {
        if (best == null || a < 0 || b < 0 || c < 0) {
            return NO;
        }
        int[] lengths = {a, b, c};
        Oracle.Fraction sum = best[best.length - 1];
        for (int i = 0; i < best.length - 1; i++) {
            sum = sum.plus(best[i].times(Oracle.Fraction.of(lengths[i])));
        }
        return sum.floor().compareTo(BigInteger.valueOf(n)) >= 0 ? 1 : 0;
    }

    private boolean isThere(int f) {
        return f >= 0 && f < takes.size();
    }

    private Oracle oracle() {
        int[] lists = new int[takes.size()];
        int[][] bodies = new int[takes.size()][];
        for (int f = 0; f < lists.length; f++) {
            lists[f] = takes.get(f);
            bodies[f] = words.get(f).stream().mapToInt(word -> word).toArray();
        }
        return new Oracle(lists, bodies);
    }
}
