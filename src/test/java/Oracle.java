import java.math.BigInteger;
import java.util.ArrayList;
import java.util.List;

/** The document told a second time, as plainly as can be and in other ways, for tests to compare with. */
final class Oracle {
    static final int NO = -2;

    static final class Node {
        int kind;
        int number;
        int known;
        int[] args = new int[0];
        Node e;
        Node f;

        boolean names(int v) {
            if ((kind == 1 || kind == 3) && number == v) {
                return true;
            }
            for (int arg : args) {
                if (arg == v) {
                    return true;
                }
            }
            return e != null && e.names(v) || f != null && f.names(v);
        }
    }

    private static final class Wrong extends RuntimeException {
        private static final long serialVersionUID = 1;
        final int place;

        Wrong(int place) {
            this.place = place;
        }
    }

    private static final class TooLong extends RuntimeException {
        private static final long serialVersionUID = 1;
    }

    private final int[] takes;
    private final int[][] words;
    final Node[] trees;
    int look;
    int place = NO;

    Oracle(int[] takes, int[][] words) {
        this.takes = takes;
        this.words = words;
        trees = new Node[takes.length];
        for (int f = 0; f < takes.length && look == 0; f++) {
            try {
                at = 0;
                nodes = 0;
                trees[f] = read(words[f], takes[f], 1);
                if (at < words[f].length) {
                    throw new Wrong(at);
                }
            } catch (Wrong found) {
                look = -1 - f;
                place = found.place;
            }
        }
    }

    private int at;
    private int nodes;

    private int take(int[] body, int low, int high) {
        if (at == body.length || body[at] < low || body[at] > high) {
            throw new Wrong(at);
        }
        return body[at++];
    }

    private Node read(int[] body, int known, int depth) {
        if (depth == 17 || nodes == 40) {
            throw new Wrong(at);
        }
        Node node = new Node();
        node.kind = take(body, 0, 6);
        node.known = known;
        nodes++;
        if (node.kind == 1 || node.kind == 3) {
            node.number = take(body, 0, known - 1);
        } else if (node.kind == 4) {
            node.number = take(body, 0, 1000);
        } else if (node.kind == 5) {
            node.number = take(body, 0, takes.length - 1);
            node.args = new int[takes[node.number]];
            for (int i = 0; i < node.args.length; i++) {
                node.args[i] = take(body, 0, known - 1);
            }
        }
        if (node.kind == 2 || node.kind == 3 || node.kind == 4 || node.kind == 6) {
            node.e = read(body, known, depth + 1);
        }
        if (node.kind == 3 || node.kind == 6) {
            node.f = read(body, known + 1, depth + 1);
        }
        return node;
    }

    // running

    long cost;
    int given = NO;
    int steps;

    int run(int f, int... lengths) {
        cost = 0;
        given = NO;
        steps = 0;
        try {
            given = call(f, lengths, 1);
            return 0;
        } catch (TooLong end) {
            return 1;
        }
    }

    private int call(int f, int[] lengths, int calls) {
        if (calls == 61) {
            throw new TooLong();
        }
        List<Integer> variables = new ArrayList<>();
        for (int i = 0; i < takes[f]; i++) {
            variables.add(lengths[i]);
        }
        return value(trees[f], variables, calls);
    }

    private int value(Node node, List<Integer> variables, int calls) {
        if (steps == 20000) {
            throw new TooLong();
        }
        steps++;
        switch (node.kind) {
            case 0:
                return 0;
            case 1:
                return variables.get(node.number);
            case 2:
                int longer = value(node.e, variables, calls) + 1;
                if (longer > 30000) {
                    throw new TooLong();
                }
                return longer;
            case 3:
                int looked = variables.get(node.number);
                return looked == 0 ? value(node.e, variables, calls) : value(node.f, with(variables, looked - 1), calls);
            case 4:
                cost += node.number;
                return value(node.e, variables, calls);
            case 5:
                int[] lengths = new int[node.args.length];
                for (int i = 0; i < lengths.length; i++) {
                    lengths[i] = variables.get(node.args[i]);
                }
                return call(node.number, lengths, calls + 1);
            default:
                int made = value(node.e, variables, calls);
                return value(node.f, with(variables, made), calls);
        }
    }

    private static List<Integer> with(List<Integer> variables, int one) {
        List<Integer> more = new ArrayList<>(variables);
        more.add(one);
        return more;
    }

    // needs; a sum is a row of factors with the whole number first, as long as it has to be

    private static final class Sum {
        final List<Long> factors = new ArrayList<>();

        long get(int i) {
            return i < factors.size() ? factors.get(i) : 0;
        }

        Sum plus(int i, long factor) {
            Sum sum = new Sum();
            for (int k = 0; k < Math.max(factors.size(), i + 1); k++) {
                sum.factors.add(get(k) + (k == i ? factor : 0));
            }
            return sum;
        }

        Sum plus(Sum other, long factor) {
            Sum sum = new Sum();
            for (int k = 0; k < Math.max(factors.size(), other.factors.size()); k++) {
                sum.factors.add(get(k) + factor * other.get(k));
            }
            return sum;
        }

        static Sum of(int i) {
            return new Sum().plus(i, 1);
        }
    }

    private static final class Need {
        final Sum[] of;
        Sum besides;

        Need(int variables, Sum besides) {
            this.of = new Sum[variables];
            for (int v = 0; v < variables; v++) {
                of[v] = new Sum();
            }
            this.besides = besides;
        }
    }

    int unknowns;
    final List<Sum> conditions = new ArrayList<>();
    private int[] q;
    private int[] p;
    private int[] r;
    private int[] s;

    private int unknown() {
        return ++unknowns;
    }

    private void atLeast(Sum left, Sum right) {
        conditions.add(left.plus(right, -1));
    }

    void gather() {
        unknowns = 0;
        conditions.clear();
        q = new int[takes.length];
        p = new int[takes.length];
        r = new int[takes.length];
        s = new int[takes.length];
        for (int f = 0; f < takes.length; f++) {
            q[f] = unknowns + 1;
            unknowns += takes[f];
            p[f] = unknown();
            r[f] = unknown();
            s[f] = unknown();
        }
        for (int f = 0; f < takes.length; f++) {
            Need need = need(trees[f], Sum.of(r[f]), Sum.of(s[f]));
            for (int i = 0; i < takes[f]; i++) {
                atLeast(Sum.of(q[f] + i), need.of[i]);
            }
            atLeast(Sum.of(p[f]), need.besides);
        }
    }

    private Need need(Node node, Sum br, Sum d) {
        Need need = new Need(node.known, d);
        switch (node.kind) {
            case 0:
                return need;
            case 1:
                need.of[node.number] = br;
                return need;
            case 2:
                return need(node.e, br, d.plus(br, 1));
            case 4:
                need = need(node.e, br, d);
                need.besides = need.besides.plus(0, node.number);
                return need;
            case 5:
                int g = node.number;
                int a = unknown();
                atLeast(Sum.of(a), Sum.of(p[g]));
                atLeast(Sum.of(a), Sum.of(p[g]).plus(d, 1).plus(s[g], -1));
                atLeast(Sum.of(r[g]), br);
                for (int i = 0; i < node.args.length; i++) {
                    need.of[node.args[i]] = need.of[node.args[i]].plus(q[g] + i, 1);
                }
                need.besides = Sum.of(a);
                return need;
            case 6:
                Need later = need(node.f, br, d);
                need = need(node.e, later.of[node.known], later.besides);
                for (int v = 0; v < node.known; v++) {
                    need.of[v] = need.of[v].plus(later.of[v], 1);
                }
                return need;
            default:
                return needOfBranches(node, br, d, need);
        }
    }

    private Need needOfBranches(Node node, Sum br, Sum d, Need need) {
        Need empty = need(node.e, br, d);
        Need other = need(node.f, br, d);
        int t = unknown();
        int c = unknown();
        atLeast(Sum.of(t), other.of[node.known]);
        atLeast(Sum.of(c), empty.besides);
        atLeast(Sum.of(c).plus(t, 1), other.besides);
        for (int v = 0; v < node.known; v++) {
            if (v == node.number) {
                need.of[v] = other.of[v].plus(t, 1);
            } else if (node.e.names(v) || node.f.names(v)) {
                int m = unknown();
                atLeast(Sum.of(m), empty.of[v]);
                atLeast(Sum.of(m), other.of[v]);
                need.of[v] = Sum.of(m);
            }
        }
        need.besides = Sum.of(c);
        return need;
    }

    // the best bounds, one least value after the other, each by the dual linear program

    /** The best q(f, 0), q(f, 1), .. and p(f), or null. */
    Fraction[] best(int f) {
        List<Fraction[]> rows = new ArrayList<>();
        for (Sum condition : conditions) {
            rows.add(row(condition));
        }
        return best(rows, q[f], p[f]);
    }

    /** The unknowns first .. last with the least sum, of these the least first one, and so on; null if no row is met. */
    static Fraction[] best(List<Fraction[]> conditions, int first, int last) {
        List<Fraction[]> rows = new ArrayList<>(conditions);
        int width = rows.get(0).length;
        Fraction[] best = new Fraction[last - first + 1];
        for (int stage = -1; stage < best.length; stage++) {
            Fraction[] target = new Fraction[width];
            for (int i = 0; i < width; i++) {
                boolean isSought = stage < 0 ? i >= first && i <= last : i == first + stage;
                target[i] = Fraction.of(isSought ? 1 : 0);
            }
            Fraction least = least(rows, target);
            if (least == null) {
                return null;
            }
            if (stage >= 0) {
                best[stage] = least;
            }
            for (int i = 0; i < width; i++) {
                target[i] = target[i].negate();
            }
            target[0] = least;
            rows.add(target);
        }
        return best;
    }

    private Fraction[] row(Sum sum) {
        Fraction[] row = new Fraction[unknowns + 1];
        for (int i = 0; i <= unknowns; i++) {
            row[i] = Fraction.of(sum.get(i));
        }
        return row;
    }

    /** The least value of the target where no row is below 0, or null; the target has no factor below 0. */
    private static Fraction least(List<Fraction[]> rows, Fraction[] target) {
        int n = target.length - 1;
        int m = rows.size();
        // rows of the dual: slack i = target[i] - sum of rows[j][i] * y[j]; what has to be most: sum of -rows[j][0] * y[j]
        Fraction[][] table = new Fraction[n + 1][m + 1];
        int[] basic = new int[n + 1];
        int[] free = new int[m];
        for (int i = 1; i <= n; i++) {
            basic[i] = m + i;
            for (int j = 0; j < m; j++) {
                table[i][j] = rows.get(j)[i].negate();
            }
            table[i][m] = target[i];
        }
        for (int j = 0; j < m; j++) {
            free[j] = j;
            table[0][j] = rows.get(j)[0].negate();
        }
        table[0][m] = Fraction.of(0);
        for (;;) {
            int column = -1;
            for (int j = 0; j < m; j++) {
                if (table[0][j].sign() > 0 && (column < 0 || free[j] < free[column])) {
                    column = j;
                }
            }
            if (column < 0) {
                return table[0][m];
            }
            int row = leaving(table, basic, column);
            if (row < 0) {
                return null;
            }
            exchange(table, row, column);
            int swapped = basic[row];
            basic[row] = free[column];
            free[column] = swapped;
        }
    }

    private static int leaving(Fraction[][] table, int[] basic, int column) {
        int m = table[0].length - 1;
        int row = -1;
        Fraction least = null;
        for (int i = 1; i < table.length; i++) {
            if (table[i][column].sign() < 0) {
                Fraction limit = table[i][m].over(table[i][column].negate());
                int order = least == null ? -1 : limit.compareTo(least);
                if (order < 0 || order == 0 && basic[i] < basic[row]) {
                    row = i;
                    least = limit;
                }
            }
        }
        return row;
    }

    private static void exchange(Fraction[][] table, int row, int column) {
        int width = table[0].length;
        Fraction pivot = table[row][column];
        Fraction[] risen = new Fraction[width];
        for (int j = 0; j < width; j++) {
            risen[j] = j == column ? Fraction.of(1).over(pivot) : table[row][j].over(pivot).negate();
        }
        for (int i = 0; i < table.length; i++) {
            Fraction factor = table[i][column];
            if (i == row || factor.sign() == 0) {
                continue;
            }
            for (int j = 0; j < width; j++) {
                Fraction more = factor.times(risen[j]);
                table[i][j] = j == column ? more : table[i][j].plus(more);
            }
        }
        table[row] = risen;
    }

    static final class Fraction implements Comparable<Fraction> {
        final BigInteger up;
        final BigInteger under;

        private Fraction(BigInteger up, BigInteger under) {
            BigInteger by = up.gcd(under);
            if (under.signum() < 0) {
                by = by.negate();
            }
            this.up = up.divide(by);
            this.under = under.divide(by);
        }

        static Fraction of(long whole) {
            return new Fraction(BigInteger.valueOf(whole), BigInteger.ONE);
        }

        int sign() {
            return up.signum();
        }

        Fraction negate() {
            return new Fraction(up.negate(), under);
        }

        Fraction plus(Fraction o) {
            if (o.sign() == 0) {
                return this;
            }
            return new Fraction(up.multiply(o.under).add(o.up.multiply(under)), under.multiply(o.under));
        }

        Fraction times(Fraction o) {
            return new Fraction(up.multiply(o.up), under.multiply(o.under));
        }

        Fraction over(Fraction o) {
            return new Fraction(up.multiply(o.under), under.multiply(o.up));
        }

        /** Of a number that is not below 0. */
        BigInteger floor() {
            return up.divide(under);
        }

        long scaled(int k) {
            return up.shiftLeft(k).divide(under).longValue();
        }

        @Override
        public int compareTo(Fraction o) {
            return up.multiply(o.under).compareTo(o.up.multiply(under));
        }

        @Override
        public String toString() {
            return up + "/" + under;
        }
    }
}
