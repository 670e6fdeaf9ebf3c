import java.util.Arrays;

/** Functions over lists: what they cost when they are run, and the best linear bounds of that cost. */
public final class PotentialBench {
    public static final int BAD = -1;
    public static final int NO = -2;
    public static final int FULL = -3;

    private static final int MOST_FUNCTIONS = 4;
    private static final int MOST_LISTS = 3;
    private static final int MOST_WORDS = 200;
    private static final int MOST_NODES = 40;
    private static final int MOST_DEEP = 16;
    /** What a function takes, and a new variable for each node round the innermost one. */
    private static final int MOST_VARIABLES = MOST_LISTS + MOST_DEEP - 1;
    private static final int MOST_PAID = 1000;
    private static final int MOST_HANDED = 3000;
    private static final int MOST_STEPS = 20000;
    private static final int MOST_ELEMENTS = 30000;
    private static final int MOST_CALLS = 60;
    private static final int MOST_UNKNOWNS = 40;
    private static final int MOST_CONDITIONS = 90;
    private static final int MOST_DOUBLED = 40;
    private static final int BESIDES = 3;

    private static final int EMPTY = 0;
    private static final int VARIABLE = 1;
    private static final int LONGER = 2;
    private static final int WHEN = 3;
    private static final int PAY = 4;
    private static final int CALL = 5;
    private static final int THEN = 6;

    private final Body[] bodies = new Body[MOST_FUNCTIONS];
    private final Reader reader;
    private final Runner runner;
    private final Needs needs;
    private final Solver solver = new Solver();
    private final Best best = new Best();
    private int functions;
    private int wrongPlace = NO;
    private boolean isTold;

    public PotentialBench() {
        for (int f = 0; f < MOST_FUNCTIONS; f++) {
            bodies[f] = new Body();
        }
        reader = new Reader(bodies);
        runner = new Runner(bodies);
        needs = new Needs(bodies);
    }

    public int function(int takes) {
        if (takes < 0 || takes > MOST_LISTS) {
            return BAD;
        }
        if (functions == MOST_FUNCTIONS) {
            return FULL;
        }
        bodies[functions].takes = takes;
        functions++;
        return functions - 1;
    }

    public int word(int f, int v) {
        if (!isFunction(f)) {
            return BAD;
        }
        Body body = bodies[f];
        if (body.size == MOST_WORDS) {
            return FULL;
        }
        body.words[body.size] = v;
        body.size++;
        return body.size;
    }

    public boolean cut(int f, int n) {
        if (!isFunction(f) || n < 0 || n > bodies[f].size) {
            return false;
        }
        bodies[f].size = n;
        return true;
    }

    public int look() {
        int f = firstWrong();
        if (f == NO) {
            wrongPlace = NO;
            return 0;
        }
        wrongPlace = reader.wrong;
        return -1 - f;
    }

    public int place() {
        return wrongPlace;
    }

    public int run(int f, int a, int b, int c) {
        if (!isFunction(f) || !areLengths(bodies[f].takes, a, b, c) || firstWrong() != NO) {
            return BAD;
        }
        runner.start(f, a, b, c);
        return runner.finish() ? 0 : 1;
    }

    public long cost() {
        return runner.paid;
    }

    public int given() {
        return runner.gave;
    }

    public int steps() {
        return runner.begun;
    }

    public int bound(int f) {
        isTold = false;
        best.isFound = false;
        if (!isFunction(f) || firstWrong() != NO) {
            return BAD;
        }
        if (!needs.gather(functions)) {
            return FULL;
        }
        isTold = true;
        solver.load(needs, needs.firstOf[f], bodies[f].takes);
        if (!solver.solve()) {
            return 0;
        }
        best.take(solver);
        return 1;
    }

    public int told(int what) {
        if (!isTold || what < 0 || what > 1) {
            return NO;
        }
        return what == 0 ? needs.unknowns : needs.count;
    }

    public long scaled(int i, int k) {
        if (k < 0 || k > MOST_DOUBLED || !best.has(i)) {
            return NO;
        }
        return best.doubled(i, k);
    }

    public int covers(int a, int b, int c, long n) {
        if (!best.isFound || a < 0 || b < 0 || c < 0) {
            return NO;
        }
        return best.reaches(a, b, c, n) ? 1 : 0;
    }

    private boolean isFunction(int f) {
        return f >= 0 && f < functions;
    }

    private static boolean areLengths(int takes, int a, int b, int c) {
        return (takes < 1 || isLength(a)) && (takes < 2 || isLength(b)) && (takes < 3 || isLength(c));
    }

    private static boolean isLength(int n) {
        return n >= 0 && n <= MOST_HANDED;
    }

    /** The first function whose body is not just one expression, or NO; it reads all bodies up to there anew. */
    private int firstWrong() {
        for (int f = 0; f < functions; f++) {
            if (!reader.isRight(f, functions)) {
                return f;
            }
        }
        return NO;
    }

    /** The words of a function, and the nodes that the Reader found in them, by the order in which they begin. */
    private static final class Body {
        private final int[] words = new int[MOST_WORDS];
        private final int[] start = new int[MOST_NODES];
        private final int[] first = new int[MOST_NODES];
        private final int[] second = new int[MOST_NODES];
        private final int[] known = new int[MOST_NODES];
        private final int[] named = new int[MOST_NODES];
        private int takes;
        private int size;
        private int nodes;

        private int begin(int place, int variables) {
            int node = nodes;
            nodes++;
            start[node] = place;
            first[node] = 0;
            second[node] = 0;
            known[node] = variables;
            named[node] = 0;
            return node;
        }

        private int kind(int node) {
            return words[start[node]];
        }

        private int operand(int node) {
            return words[start[node] + 1];
        }

        /** The variable that a call hands over as list i. */
        private int handed(int node, int i) {
            return words[start[node] + 2 + i];
        }

        /** The variables, as bits, that are known at a node, named within it, and not the one that it looks at. */
        private int others(int node) {
            int inside = named[first[node]] | named[second[node]];
            return inside & ((1 << known[node]) - 1) & ~(1 << operand(node));
        }
    }

    /** Finds the nodes of a body, or the first word that can't stand where it does. */
    private static final class Reader {
        private final Body[] bodies;
        private Body body;
        private int functions;
        private int next;
        private int wrong = NO;

        private Reader(Body[] bodies) {
            this.bodies = bodies;
            this.body = bodies[0];
        }

        private boolean isRight(int f, int howMany) {
            body = bodies[f];
            functions = howMany;
            next = 0;
            wrong = NO;
            body.nodes = 0;
            expression(body.takes, 1);
            if (wrong == NO && next < body.size) {
                wrong = next;
            }
            return wrong == NO;
        }

        /** Reads the node that begins here: its number, which means nothing once a word was wrong. */
        private int expression(int known, int depth) {
            if (wrong == NO && (depth > MOST_DEEP || body.nodes == MOST_NODES)) {
                wrong = next;
            }
            int kind = number(EMPTY, THEN);
            if (wrong != NO) {
                return 0;
            }
            int node = body.begin(next - 1, known);
            switch (kind) {
                case EMPTY:
                    break;
                case VARIABLE:
                    variable(node);
                    break;
                case PAY:
                    number(0, MOST_PAID);
                    parts(node, depth, false);
                    break;
                case CALL:
                    call(node);
                    break;
                case WHEN:
                    variable(node);
                    parts(node, depth, true);
                    break;
                default:
                    parts(node, depth, kind == THEN);
                    break;
            }
            return node;
        }

        private void parts(int node, int depth, boolean two) {
            int first = expression(body.known[node], depth + 1);
            body.first[node] = first;
            body.named[node] |= body.named[first];
            if (two) {
                int second = expression(body.known[node] + 1, depth + 1);
                body.second[node] = second;
                body.named[node] |= body.named[second];
            }
        }

        private void call(int node) {
            int f = number(0, functions - 1);
            if (wrong != NO) {
                return;
            }
            for (int i = 0; i < bodies[f].takes; i++) {
                variable(node);
            }
        }

        private void variable(int node) {
            int v = number(0, body.known[node] - 1);
            body.named[node] |= 1 << v;
        }

        /** The word that stands here, when it is one of low .. high; a wrong place, once found, stays. */
        private int number(int low, int high) {
            if (wrong != NO) {
                return 0;
            }
            if (next >= body.size || body.words[next] < low || body.words[next] > high) {
                wrong = next;
                return 0;
            }
            next++;
            return body.words[next - 1];
        }
    }

    /** Runs a function without recursion of its own, since calls within calls and nodes within nodes multiply. */
    private static final class Runner {
        private final Body[] bodies;
        private final int[] called = new int[MOST_CALLS];
        private final int[] lengths = new int[MOST_CALLS * MOST_VARIABLES];
        /** The nodes that wait for what one of their parts gives, those of the first call first. */
        private final int[] waits = new int[MOST_CALLS * MOST_DEEP];
        private final int[] waitingBefore = new int[MOST_CALLS];
        private int calls;
        private int waiting;
        private int node;
        private int length;
        private int begun;
        private long paid;
        private int gave = NO;

        private Runner(Body[] bodies) {
            this.bodies = bodies;
        }

        private void start(int f, int a, int b, int c) {
            calls = 0;
            waiting = 0;
            begun = 0;
            paid = 0;
            gave = NO;
            open(f);
            lengths[0] = a;
            lengths[1] = b;
            lengths[2] = c;
        }

        /** Whether it came to an end that is not too long. */
        private boolean finish() {
            for (int turn = 0; turn <= MOST_STEPS; turn++) {
                if (!reachLength()) {
                    return false;
                }
                if (!passOn()) {
                    return false;
                }
                if (calls == 0) {
                    gave = length;
                    return true;
                }
            }
            return false;
        }

        /** Begins nodes until one gives a length at once; false when that is too long. */
        private boolean reachLength() {
            for (int turn = 0; turn <= MOST_STEPS; turn++) {
                if (begun == MOST_STEPS) {
                    return false;
                }
                begun++;
                Body body = bodies[called[calls - 1]];
                int kind = body.kind(node);
                if (kind == EMPTY) {
                    length = 0;
                    return true;
                }
                if (kind == VARIABLE) {
                    length = lengths[slot(body.operand(node))];
                    return true;
                }
                if (kind == CALL) {
                    if (calls == MOST_CALLS) {
                        return false;
                    }
                    hand(body);
                } else {
                    goInside(body, kind);
                }
            }
            return false;
        }

        private void goInside(Body body, int kind) {
            int part = body.first[node];
            if (kind == PAY) {
                paid += body.operand(node);
            } else if (kind == WHEN) {
                int looked = lengths[slot(body.operand(node))];
                if (looked > 0) {
                    lengths[slot(body.known[node])] = looked - 1;
                    part = body.second[node];
                }
            } else {
                waits[waiting] = node;
                waiting++;
            }
            node = part;
        }

        /** Opens the call that the node asks for. */
        private void hand(Body body) {
            int from = slot(0);
            int caller = node;
            int f = body.operand(caller);
            open(f);
            int to = slot(0);
            for (int i = 0; i < bodies[f].takes; i++) {
                lengths[to + i] = lengths[from + body.handed(caller, i)];
            }
        }

        private void open(int f) {
            called[calls] = f;
            waitingBefore[calls] = waiting;
            calls++;
            node = 0;
        }

        private int slot(int variable) {
            return (calls - 1) * MOST_VARIABLES + variable;
        }

        /** Gives the length to what waits for it, until a node has to begin or no call is open; false when too long. */
        private boolean passOn() {
            for (int turn = 0; turn <= MOST_CALLS * (MOST_DEEP + 1); turn++) {
                if (waiting == waitingBefore[calls - 1]) {
                    calls--;
                    if (calls == 0) {
                        return true;
                    }
                    continue;
                }
                waiting--;
                int waiter = waits[waiting];
                Body body = bodies[called[calls - 1]];
                if (body.kind(waiter) == THEN) {
                    lengths[slot(body.known[waiter])] = length;
                    node = body.second[waiter];
                    return true;
                }
                if (length == MOST_ELEMENTS) {
                    return false;
                }
                length++;
            }
            return false;
        }
    }

    /** Gathers the unknowns and the conditions of all functions; a sum is a row of factors, the whole number last. */
    private static final class Needs {
        private static final int WHOLE = MOST_UNKNOWNS;

        private final Body[] bodies;
        private final int[] firstOf = new int[MOST_FUNCTIONS];
        private final int[][] conditions = new int[MOST_CONDITIONS][WHOLE + 1];
        private final int[] spare = new int[WHOLE + 1];
        private final int[] nothing = new int[WHOLE + 1];
        /** What is needed of each variable, a level for each branch that is being gone through. */
        private final int[][] sums = new int[(MOST_DEEP + 1) * MOST_VARIABLES][WHOLE + 1];
        /** By depth: what each element given has to bring. */
        private final int[][] brought = new int[MOST_DEEP + 1][WHOLE + 1];
        /** By depth: what has to be left, and once the node is gone through, what it needs besides. */
        private final int[][] besides = new int[MOST_DEEP + 1][WHOLE + 1];
        private Body body;
        private int unknowns;
        private int count;
        private boolean isFull;

        private Needs(Body[] bodies) {
            this.bodies = bodies;
            this.body = bodies[0];
        }

        /** Whether there was room for all. */
        private boolean gather(int functions) {
            unknowns = 0;
            count = 0;
            isFull = false;
            for (int f = 0; f < functions; f++) {
                firstOf[f] = unknowns;
                unknowns += bodies[f].takes + 3;
            }
            for (int f = 0; f < functions && !isFull; f++) {
                goThrough(f);
            }
            return !isFull;
        }

        private void goThrough(int f) {
            body = bodies[f];
            Arrays.fill(brought[0], 0);
            Arrays.fill(besides[0], 0);
            brought[0][bringsOf(f)] = 1;
            besides[0][leavesOf(f)] = 1;
            clear(0);
            add(0, 0, 0);
            for (int i = 0; i < bodies[f].takes; i++) {
                atLeast(firstOf[f] + i, sum(0, i));
            }
            atLeast(paysOf(f), besides[0]);
        }

        private int paysOf(int f) {
            return firstOf[f] + bodies[f].takes;
        }

        private int bringsOf(int f) {
            return paysOf(f) + 1;
        }

        private int leavesOf(int f) {
            return paysOf(f) + 2;
        }

        /** Adds what a node needs of variables to the sums of its level; what it needs besides is left by depth. */
        private void add(int node, int level, int depth) {
            if (isFull || depth >= MOST_DEEP || level > depth) {
                return;
            }
            switch (body.kind(node)) {
                case EMPTY:
                    break;
                case VARIABLE:
                    plus(sum(level, body.operand(node)), brought[depth]);
                    break;
                case WHEN:
                    addBranches(node, level, depth);
                    break;
                case CALL:
                    addCall(node, level, depth);
                    break;
                case THEN:
                    addThen(node, level, depth);
                    break;
                default:
                    addOnePart(node, level, depth);
                    break;
            }
        }

        private void addOnePart(int node, int level, int depth) {
            boolean isLonger = body.kind(node) == LONGER;
            handDown(depth);
            if (isLonger) {
                plus(besides[depth + 1], brought[depth]);
            }
            add(body.first[node], level, depth + 1);
            copy(besides[depth + 1], besides[depth]);
            if (!isLonger) {
                besides[depth][WHOLE] += body.operand(node);
            }
        }

        private void addThen(int node, int level, int depth) {
            handDown(depth);
            add(body.second[node], level, depth + 1);
            int[] made = sum(level, body.known[node]);
            copy(made, brought[depth + 1]);
            // the first part may have new variables of the same number
            Arrays.fill(made, 0);
            add(body.first[node], level, depth + 1);
            copy(besides[depth + 1], besides[depth]);
        }

        private void addCall(int node, int level, int depth) {
            if (unknowns == MOST_UNKNOWNS) {
                isFull = true;
                return;
            }
            int f = body.operand(node);
            int a = unknowns;
            unknowns++;
            atLeast(a, nothing)[paysOf(f)]--;
            int[] row = atLeast(a, besides[depth]);
            row[paysOf(f)]--;
            row[leavesOf(f)]++;
            atLeast(bringsOf(f), brought[depth]);
            for (int i = 0; i < bodies[f].takes; i++) {
                sum(level, body.handed(node, i))[firstOf[f] + i]++;
            }
            Arrays.fill(besides[depth], 0);
            besides[depth][a] = 1;
        }

        private void addBranches(int node, int level, int depth) {
            int others = body.others(node);
            int t = unknowns;
            int c = t + 1;
            int m = t + 2;
            if (m + Integer.bitCount(others) > MOST_UNKNOWNS) {
                isFull = true;
                return;
            }
            unknowns = m + Integer.bitCount(others);
            handDown(depth);
            clear(level + 1);
            add(body.first[node], level + 1, depth + 1);
            atLeast(c, besides[depth + 1]);
            coverOthers(others, m, level + 1);
            handDown(depth);
            clear(level + 1);
            add(body.second[node], level + 1, depth + 1);
            atLeast(t, sum(level + 1, body.known[node]));
            atLeast(c, besides[depth + 1])[t]++;
            coverOthers(others, m, level + 1);
            int v = body.operand(node);
            sum(level, v)[t]++;
            plus(sum(level, v), sum(level + 1, v));
            needOthers(others, m, level);
            Arrays.fill(besides[depth], 0);
            besides[depth][c] = 1;
        }

        private void coverOthers(int others, int firstUnknown, int level) {
            int m = firstUnknown;
            for (int v = 0; v < MOST_VARIABLES; v++) {
                if ((others >> v & 1) == 1) {
                    atLeast(m, sum(level, v));
                    m++;
                }
            }
        }

        private void needOthers(int others, int firstUnknown, int level) {
            int m = firstUnknown;
            for (int v = 0; v < MOST_VARIABLES; v++) {
                if ((others >> v & 1) == 1) {
                    sum(level, v)[m]++;
                    m++;
                }
            }
        }

        private void handDown(int depth) {
            copy(brought[depth], brought[depth + 1]);
            copy(besides[depth], besides[depth + 1]);
        }

        private int[] sum(int level, int variable) {
            return sums[level * MOST_VARIABLES + variable];
        }

        private void clear(int level) {
            for (int v = 0; v < MOST_VARIABLES; v++) {
                Arrays.fill(sum(level, v), 0);
            }
        }

        /** A new condition, that its row is not below 0: the unknown less the sum; one that is not kept when full. */
        private int[] atLeast(int unknown, int[] sum) {
            int[] row = spare;
            if (count < MOST_CONDITIONS) {
                row = conditions[count];
                count++;
            } else {
                isFull = true;
            }
            for (int i = 0; i <= WHOLE; i++) {
                row[i] = -sum[i];
            }
            row[unknown]++;
            return row;
        }

        private static void copy(int[] from, int[] to) {
            System.arraycopy(from, 0, to, 0, WHOLE + 1);
        }

        private static void plus(int[] row, int[] more) {
            for (int i = 0; i <= WHOLE; i++) {
                row[i] += more[i];
            }
        }
    }

    /**
     * The dual simplex method over whole numbers: row by row, each is a sum of the columns over one common
     * denominator, and the last column is the whole number. Row 0 is the sum that has to be least. A column is
     * told by that row and then by all unknowns; each stays above 0 in that order, so that no table comes again
     * and the first table without a row below 0 is the best one.
     */
    private static final class Solver {
        private static final int MOST_TURNS = 1000000;

        private final Whole[] cells = new Whole[(MOST_CONDITIONS + 1) * (MOST_UNKNOWNS + 1)];
        /** Where each unknown is: its row, or NO when it has a column. */
        private final int[] rowOf = new int[MOST_UNKNOWNS];
        private final int[] columnOf = new int[MOST_UNKNOWNS];
        private final int[] unknownOfRow = new int[MOST_CONDITIONS + 1];
        private final int[] unknownOfColumn = new int[MOST_UNKNOWNS];
        private final Whole under = new Whole();
        private final Whole pivot = new Whole();
        private final Whole left = new Whole();
        private final Whole right = new Whole();
        private final Whole rest = new Whole();
        private int rows;
        private int columns;
        private int firstSought;
        private int takes;

        /** What is sought: the unknowns from the first one on, for each list one and one besides. */
        private void load(Needs needs, int first, int lists) {
            firstSought = first;
            takes = lists;
            columns = needs.unknowns;
            under.set(1);
            for (int j = 0; j < columns; j++) {
                rowOf[j] = NO;
                columnOf[j] = j;
                unknownOfColumn[j] = j;
                cell(0, j).set(j >= first && j <= first + lists ? 1 : 0);
            }
            cell(0, columns).set(0);
            unknownOfRow[0] = NO;
            rows = 1;
            for (int i = 0; i < needs.count; i++) {
                if (canFail(needs.conditions[i])) {
                    loadRow(needs.conditions[i]);
                }
            }
        }

        private static boolean canFail(int[] row) {
            for (int j = 0; j <= Needs.WHOLE; j++) {
                if (row[j] < 0) {
                    return true;
                }
            }
            return false;
        }

        private void loadRow(int[] row) {
            for (int j = 0; j < columns; j++) {
                cell(rows, j).set(row[j]);
            }
            cell(rows, columns).set(row[Needs.WHOLE]);
            unknownOfRow[rows] = NO;
            rows++;
        }

        private Whole cell(int row, int column) {
            int at = row * (columns + 1) + column;
            if (cells[at] == null) {
                cells[at] = new Whole();
            }
            return cells[at];
        }

        /** Whether there are numbers that meet all conditions; the best ones are in the table then. */
        private boolean solve() {
            for (int turn = 0; turn < MOST_TURNS; turn++) {
                int row = lowestRow();
                if (row == NO) {
                    return true;
                }
                int column = entering(row);
                if (column == NO) {
                    return false;
                }
                exchange(row, column);
            }
            return false;
        }

        private int lowestRow() {
            int lowest = NO;
            for (int i = 1; i < rows; i++) {
                Whole value = cell(i, columns);
                if (value.sign() < 0 && (lowest == NO || value.compare(cell(lowest, columns)) < 0)) {
                    lowest = i;
                }
            }
            return lowest;
        }

        private int entering(int row) {
            int best = NO;
            for (int j = 0; j < columns; j++) {
                if (cell(row, j).sign() > 0 && (best == NO || isDearer(best, j, row))) {
                    best = j;
                }
            }
            return best;
        }

        /** Whether column j costs more than column k, each for what it adds to the row. */
        private boolean isDearer(int j, int k, int row) {
            int order = compareIn(0, j, k, row);
            for (int i = 0; order == 0 && i <= takes + columns; i++) {
                int unknown = i <= takes ? firstSought + i : i - takes - 1;
                if (rowOf[unknown] != NO) {
                    order = compareIn(rowOf[unknown], j, k, row);
                } else if (columnOf[unknown] == j) {
                    order = 1;
                } else if (columnOf[unknown] == k) {
                    order = -1;
                }
            }
            return order > 0;
        }

        /** Which of two columns has more in row i, each for what it adds to the other row. */
        private int compareIn(int i, int j, int k, int row) {
            Whole a = cell(i, j);
            Whole b = cell(row, k);
            Whole c = cell(i, k);
            Whole d = cell(row, j);
            if (a.isSmall() && b.isSmall() && c.isSmall() && d.isSmall()) {
                return Long.compare(a.small() * b.small(), c.small() * d.small());
            }
            left.multiply(a, b);
            right.multiply(c, d);
            return left.compare(right);
        }

        /** Solves a row for the unknown of a column, and puts that into all other rows. */
        private void exchange(int row, int column) {
            pivot.copy(cell(row, column));
            boolean isSame = pivot.compare(under) == 0;
            for (int i = 0; i < rows; i++) {
                Whole factor = cell(i, column);
                // what has no part in the exchange stays, but for the common denominator
                boolean isApart = i == row || isSame && factor.sign() == 0;
                for (int j = 0; j <= columns && !isApart; j++) {
                    if (j != column && !(isSame && cell(row, j).sign() == 0)) {
                        put(cell(i, j), factor, cell(row, j));
                    }
                }
            }
            for (int j = 0; j <= columns; j++) {
                cell(row, j).negate();
            }
            cell(row, column).copy(under);
            under.copy(pivot);
            swapUnknowns(row, column);
        }

        /** x becomes (x * pivot - y * z) / under, which leaves no rest. */
        private void put(Whole x, Whole y, Whole z) {
            // most numbers of a table are 0 and stay so
            if (x.sign() == 0 && (y.sign() == 0 || z.sign() == 0)) {
                return;
            }
            boolean areSmall = x.isSmall() && y.isSmall() && z.isSmall() && pivot.isSmall() && under.isSmall();
            if (areSmall && under.sign() != 0) {
                x.set((x.small() * pivot.small() - y.small() * z.small()) / under.small());
                return;
            }
            left.multiply(x, pivot);
            right.multiply(y, z);
            left.subtract(right);
            left.divide(under, rest, right);
            x.copy(left);
        }

        private void swapUnknowns(int row, int column) {
            int rising = unknownOfColumn[column];
            int falling = unknownOfRow[row];
            unknownOfRow[row] = rising;
            unknownOfColumn[column] = falling;
            if (rising != NO) {
                rowOf[rising] = row;
            }
            if (falling != NO) {
                rowOf[falling] = NO;
                columnOf[falling] = column;
            }
        }

        /** What the i-th of those sought is, over the common denominator. */
        private void tell(int i, Whole into) {
            int row = rowOf[firstSought + i];
            if (row == NO) {
                into.set(0);
            } else {
                into.copy(cell(row, columns));
            }
        }
    }

    /** The best bounds of the latest bound(), when there are some: q by list, p behind them, over one denominator. */
    private static final class Best {
        private final Whole[] parts = new Whole[MOST_LISTS + 1];
        private final Whole under = new Whole();
        private final Whole sum = new Whole();
        private final Whole factor = new Whole();
        private final Whole product = new Whole();
        private final Whole rest = new Whole();
        private boolean isFound;
        private int takes;

        private Best() {
            for (int i = 0; i <= BESIDES; i++) {
                parts[i] = new Whole();
            }
        }

        private void take(Solver solver) {
            isFound = true;
            takes = solver.takes;
            under.copy(solver.under);
            for (int i = 0; i < takes; i++) {
                solver.tell(i, parts[i]);
            }
            solver.tell(takes, parts[BESIDES]);
        }

        private boolean has(int i) {
            return isFound && (i == BESIDES || i >= 0 && i < takes);
        }

        private long doubled(int i, int k) {
            factor.set(1L << k);
            product.multiply(parts[i], factor);
            product.divide(under, rest, factor);
            return product.lowest();
        }

        private boolean reaches(int a, int b, int c, long n) {
            sum.copy(parts[BESIDES]);
            addTimes(0, a);
            addTimes(1, b);
            addTimes(2, c);
            factor.set(n);
            product.multiply(under, factor);
            return sum.compare(product) >= 0;
        }

        private void addTimes(int i, int length) {
            if (i < takes) {
                factor.set(-(long) length);
                product.multiply(parts[i], factor);
                sum.subtract(product);
            }
        }
    }

    /** A whole number of any size: a sign, and digits of 31 bits, the lowest first and the highest not 0. */
    static final class Whole {
        private static final int BITS = 31;
        private static final long BASE = 1L << BITS;
        private static final long MASK = BASE - 1;
        private static final int DIGITS_OF_LONG = 3;

        private int[] digits = new int[DIGITS_OF_LONG];
        private int size;
        private int sign;

        void set(long value) {
            sign = Long.compare(value, 0);
            // the lowest long is its own negative, and as bits without a sign the right amount
            long amount = value < 0 ? -value : value;
            for (int i = 0; i < DIGITS_OF_LONG; i++) {
                digits[i] = (int) (amount & MASK);
                amount >>>= BITS;
            }
            trim(DIGITS_OF_LONG);
        }

        void copy(Whole other) {
            room(other.size);
            System.arraycopy(other.digits, 0, digits, 0, other.size);
            size = other.size;
            sign = other.sign;
        }

        void negate() {
            sign = -sign;
        }

        int sign() {
            return sign;
        }

        /** Whether a product with another such number, and the difference of two such products, is a long. */
        boolean isSmall() {
            return size <= 1;
        }

        /** The number itself, when it is small. */
        long small() {
            return (long) sign * digits[0];
        }

        /** The lowest 64 bits. */
        long lowest() {
            long bits = 0;
            for (int i = 0; i < size && i < DIGITS_OF_LONG; i++) {
                bits |= (long) digits[i] << (i * BITS);
            }
            return sign < 0 ? -bits : bits;
        }

        int compare(Whole other) {
            if (sign != other.sign) {
                return Integer.compare(sign, other.sign);
            }
            return sign * compareAmount(other);
        }

        private int compareAmount(Whole other) {
            if (size != other.size) {
                return Integer.compare(size, other.size);
            }
            for (int i = size - 1; i >= 0; i--) {
                if (digits[i] != other.digits[i]) {
                    return Integer.compare(digits[i], other.digits[i]);
                }
            }
            return 0;
        }

        /** Becomes x * y; it is neither of them. */
        void multiply(Whole x, Whole y) {
            int most = x.size + y.size;
            room(most);
            for (int i = 0; i < most; i++) {
                digits[i] = 0;
            }
            for (int i = 0; i < x.size; i++) {
                long carry = 0;
                for (int j = 0; j < y.size; j++) {
                    carry += digits[i + j] + (long) x.digits[i] * y.digits[j];
                    digits[i + j] = (int) (carry & MASK);
                    carry >>= BITS;
                }
                digits[i + y.size] = (int) carry;
            }
            sign = x.sign * y.sign;
            trim(most);
        }

        void subtract(Whole other) {
            if (other.sign == 0) {
                return;
            }
            if (sign == 0) {
                copy(other);
                negate();
            } else if (sign != other.sign) {
                addAmount(other);
            } else if (compareAmount(other) >= 0) {
                differ(this, other);
            } else {
                differ(other, this);
                sign = -other.sign;
            }
        }

        private void addAmount(Whole other) {
            int most = (size > other.size ? size : other.size) + 1;
            room(most);
            long carry = 0;
            for (int i = 0; i < most; i++) {
                carry += (long) digit(i) + other.digit(i);
                digits[i] = (int) (carry & MASK);
                carry >>= BITS;
            }
            trim(most);
        }

        /** Has the amount of more less that of less; it is one of the two. */
        private void differ(Whole more, Whole less) {
            int most = more.size;
            room(most);
            long borrow = 0;
            for (int i = 0; i < most; i++) {
                borrow += (long) more.digit(i) - less.digit(i);
                digits[i] = (int) (borrow & MASK);
                borrow >>= BITS;
            }
            trim(most);
        }

        private int digit(int i) {
            return i < size ? digits[i] : 0;
        }

        /** Becomes what it is over another, without the rest (nothing over 0); rest and unit are used up. */
        void divide(Whole by, Whole rest, Whole unit) {
            if (by.size == 0 || compareAmount(by) < 0) {
                set(0);
                return;
            }
            sign = sign * by.sign;
            int more = size - by.size;
            if (by.size == 1) {
                divideByDigit(by.digits[0]);
            } else {
                int shift = by.bitsFree();
                rest.shift(this, shift);
                unit.shift(by, shift);
                for (int i = more; i >= 0; i--) {
                    long times = rest.guess(unit, by.size, i);
                    if (rest.takeOff(unit, by.size, i, times) < 0) {
                        times--;
                        rest.takeOff(unit, by.size, i, -1);
                    }
                    digits[i] = (int) times;
                }
            }
            trim(more + 1);
        }

        private void divideByDigit(int by) {
            if (by == 0) {
                return;
            }
            long left = 0;
            for (int i = size - 1; i >= 0; i--) {
                left = left << BITS | digits[i];
                digits[i] = (int) (left / by);
                left %= by;
            }
        }

        /** How far the highest digit can be shifted to the left. */
        private int bitsFree() {
            int free = 0;
            long top = digit(size - 1);
            for (int i = 1; i < BITS; i++) {
                if (top << i < BASE) {
                    free = i;
                }
            }
            return free;
        }

        /** Has the digits of another shifted to the left by less than a digit, and one digit more, which may be 0. */
        private void shift(Whole other, int by) {
            room(other.size + 1);
            long carry = 0;
            for (int i = 0; i < other.size; i++) {
                carry |= (long) other.digits[i] << by;
                digits[i] = (int) (carry & MASK);
                carry >>= BITS;
            }
            digits[other.size] = (int) carry;
        }

        /** How often a unit of so many digits, shifted by so many, can be taken off (less than BASE), or one more. */
        private long guess(Whole unit, int width, int by) {
            long top = unit.digits[width - 1];
            if (top == 0) {
                return 0;
            }
            long high = (long) digits[by + width] << BITS | digits[by + width - 1];
            long times = high / top;
            long left = high % top;
            long below = unit.digits[width - 2];
            for (int i = 0; i < 2 && left < BASE; i++) {
                if (times >= BASE || times * below > (left << BITS | digits[by + width - 2])) {
                    times--;
                    left += top;
                }
            }
            return times;
        }

        /** Takes the unit off so many times; what it returns is below 0 when that was too often. */
        private long takeOff(Whole unit, int width, int by, long times) {
            long carry = 0;
            for (int i = 0; i < width; i++) {
                carry += digits[by + i] - times * unit.digits[i];
                digits[by + i] = (int) (carry & MASK);
                carry >>= BITS;
            }
            // the highest digit is not looked at again
            return carry + digits[by + width];
        }

        private void room(int most) {
            if (digits.length < most) {
                int twice = 2 * digits.length;
                digits = Arrays.copyOf(digits, twice > most ? twice : most);
            }
        }

        private void trim(int most) {
            size = most;
            while (size > 0 && digits[size - 1] == 0) {
                size--;
            }
            if (size == 0) {
                sign = 0;
            }
        }
    }
}
