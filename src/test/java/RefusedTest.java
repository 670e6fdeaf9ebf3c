import java.util.ArrayList;
import java.util.List;
import java.util.function.Consumer;
import java.util.function.ToLongFunction;

/**
 * Calls that are refused, in each state that an object can be in: two objects are brought into the same state, one
 * of them gets the refused call, and from then on both have to answer the same.
 */
public final class RefusedTest {
    private static final int BAD = PotentialBench.BAD;
    private static final int NO = PotentialBench.NO;
    private static final int FULL = PotentialBench.FULL;
    private static final int LEAST = Integer.MIN_VALUE;
    private static final int MOST = Integer.MAX_VALUE;

    private record State(String name, Consumer<PotentialBench> reach) {
    }

    private record Call(String name, long due, ToLongFunction<PotentialBench> make) {
    }

    public static void main(String[] args) {
        List<Call> always = always();
        for (State state : states()) {
            always.forEach(call -> leavesAll(state, call));
            inState(state).forEach(call -> leavesAll(state, call));
            boundCalls(state).forEach(call -> leavesNoBounds(state, call));
        }
        Check.end("RefusedTest");
    }

    // the states: functions 0 and 1 take a list, where there are some

    private static List<State> states() {
        List<State> states = new ArrayList<>();
        states.add(new State("new", x -> { }));
        states.add(new State("without bodies", x -> {
            x.function(1);
            x.function(1);
            x.look();
        }));
        states.add(new State("wrong", x -> {
            right(x);
            x.look();
            Check.words(x, 1, 2, 4, 7);
            x.look();
        }));
        states.add(new State("right", RefusedTest::right));
        states.add(new State("run", x -> {
            right(x);
            x.run(0, 4, 0, 0);
        }));
        states.add(new State("too long", x -> {
            right(x);
            x.run(0, 100, 0, 0);
        }));
        states.add(new State("found", x -> {
            right(x);
            x.run(0, 4, 0, 0);
            x.bound(0);
        }));
        states.add(new State("none", x -> {
            right(x);
            Check.body(x, 1, 4, 1, 5, 1, 0);
            x.bound(1);
        }));
        states.add(new State("bound was FULL", x -> {
            right(x);
            Check.body(x, 1, Bodies.of(Bodies.times(15, 3, 0, 0), 0));
            x.bound(1);
        }));
        states.add(new State("bound was BAD", x -> {
            right(x);
            x.bound(0);
            x.bound(9);
        }));
        states.add(new State("found, then wrong", x -> {
            right(x);
            x.run(1, 3000, 0, 0);
            x.bound(1);
            x.cut(0, 5);
            x.look();
        }));
        states.add(new State("full", x -> {
            right(x);
            x.function(0);
            x.function(3);
            Check.words(x, 2, 0);
            Check.words(x, 3, 1, 2);
            x.run(0, 4, 0, 0);
            x.bound(0);
            Check.words(x, 1, Bodies.times(198, 7));
            x.look();
        }));
        return states;
    }

    private static void right(PotentialBench x) {
        Check.function(x, 1, 3, 0, 0, 4, 3, 2, 5, 0, 1);
        Check.function(x, 1, 2, 0);
    }

    // the calls

    /** Calls that every state refuses. */
    private static List<Call> always() {
        List<Call> calls = new ArrayList<>();
        int[] takes = {LEAST, -1, 4, MOST};
        for (int n : takes) {
            calls.add(new Call("function " + n, BAD, x -> x.function(n)));
        }
        int[] functions = {LEAST, -1, 4, MOST};
        for (int f : functions) {
            calls.add(new Call("word of " + f, BAD, x -> x.word(f, 0)));
            calls.add(new Call("cut of " + f, 0, x -> x.cut(f, 0) ? 1 : 0));
            calls.add(new Call("run of " + f, BAD, x -> x.run(f, 0, 0, 0)));
        }
        int[] lengths = {LEAST, -1, 3001, MOST};
        for (int n : lengths) {
            calls.add(new Call("run for " + n, BAD, x -> x.run(0, n, 0, 0)));
        }
        int[] words = {LEAST, -1, 201, MOST};
        for (int n : words) {
            calls.add(new Call("cut to " + n, 0, x -> x.cut(0, n) ? 1 : 0));
        }
        int[] others = {LEAST, -1, 2, MOST};
        for (int n : others) {
            calls.add(new Call("told " + n, NO, x -> x.told(n)));
        }
        int[] parts = {LEAST, -1, 1, 2, 4, MOST};
        for (int i : parts) {
            calls.add(new Call("scaled " + i, NO, x -> x.scaled(i, 0)));
        }
        int[] powers = {LEAST, -1, 41, MOST};
        for (int k : powers) {
            calls.add(new Call("scaled by " + k, NO, x -> x.scaled(3, k)));
        }
        calls.add(new Call("covers a", NO, x -> x.covers(-1, 0, 0, 0)));
        calls.add(new Call("covers b", NO, x -> x.covers(0, -1, 0, 0)));
        calls.add(new Call("covers c", NO, x -> x.covers(0, 0, LEAST, 0)));
        return calls;
    }

    /** Calls that this state refuses, for how many functions and words it has, or since a body is wrong. */
    private static List<Call> inState(State state) {
        PotentialBench seen = made(state);
        List<Call> calls = new ArrayList<>();
        int functions = 0;
        while (seen.cut(functions, 0)) {
            functions++;
        }
        for (int f = functions; f < 4; f++) {
            int none = f;
            calls.add(new Call("word of " + f, BAD, x -> x.word(none, 0)));
            calls.add(new Call("cut of " + f, 0, x -> x.cut(none, 0) ? 1 : 0));
            calls.add(new Call("run of " + f, BAD, x -> x.run(none, 0, 0, 0)));
        }
        if (functions == 4) {
            for (int takes = 0; takes <= 3; takes++) {
                int n = takes;
                calls.add(new Call("function " + n, FULL, x -> x.function(n)));
            }
            calls.add(new Call("word", FULL, x -> x.word(1, 0)));
        }
        for (int f = 0; f < functions; f++) {
            int cut = f;
            int words = made(state).word(f, 0);
            int more = words == FULL ? 201 : words;
            calls.add(new Call("cut to one more", 0, x -> x.cut(cut, more) ? 1 : 0));
        }
        if (functions == 0 || made(state).look() != 0) {
            calls.add(new Call("run", BAD, x -> x.run(0, 0, 0, 0)));
        }
        return calls;
    }

    /** Bounds that are refused: nothing is told then of a bound before. */
    private static List<Call> boundCalls(State state) {
        List<Call> calls = new ArrayList<>();
        int[] functions = {LEAST, -1, 4, MOST};
        for (int f : functions) {
            calls.add(new Call("bound of " + f, BAD, x -> x.bound(f)));
        }
        int answer = made(state).bound(0);
        if (answer == BAD || answer == FULL) {
            calls.add(new Call("bound", answer, x -> x.bound(0)));
        }
        return calls;
    }

    private static PotentialBench made(State state) {
        PotentialBench x = new PotentialBench();
        state.reach.accept(x);
        return x;
    }

    // what both objects answer

    private static void leavesAll(State state, Call call) {
        String name = state.name + ", after " + call.name + ": ";
        PotentialBench x = made(state);
        PotentialBench y = made(state);
        Check.due(name + "itself", call.make.applyAsLong(x), call.due);
        same(name, boundAnswers(x), boundAnswers(y));
        same(name, otherAnswers(x), otherAnswers(y));
        Check.due(name + "again", call.make.applyAsLong(x), call.due);
        same(name, laterAnswers(x), laterAnswers(y));
    }

    private static void leavesNoBounds(State state, Call call) {
        String name = state.name + ", after " + call.name + ": ";
        PotentialBench x = made(state);
        PotentialBench y = made(state);
        Check.due(name + "itself", call.make.applyAsLong(x), call.due);
        Bounds.nothing(x, name);
        same(name, otherAnswers(x), otherAnswers(y));
        Check.due(name + "again", call.make.applyAsLong(x), call.due);
        same(name, laterAnswers(x), laterAnswers(y));
    }

    private static void same(String name, List<Long> got, List<Long> due) {
        Check.due(name + "as many answers", got.size(), due.size());
        for (int i = 0; i < due.size(); i++) {
            Check.due(name + "answer " + i, got.get(i), due.get(i));
        }
    }

    private static List<Long> boundAnswers(PotentialBench x) {
        List<Long> answers = new ArrayList<>();
        for (int what = 0; what <= 1; what++) {
            answers.add((long) x.told(what));
        }
        for (int i = 0; i <= 3; i++) {
            answers.add(x.scaled(i, 0));
            answers.add(x.scaled(i, 40));
        }
        for (int n = 0; n < 4; n++) {
            answers.add((long) x.covers(1, 1, 1, n));
        }
        return answers;
    }

    private static List<Long> otherAnswers(PotentialBench x) {
        List<Long> answers = new ArrayList<>();
        answers.add((long) x.place());
        answers.add(x.cost());
        answers.add((long) x.given());
        answers.add((long) x.steps());
        return answers;
    }

    /** What calls that change something answer, and what they leave. */
    private static List<Long> laterAnswers(PotentialBench x) {
        List<Long> answers = new ArrayList<>();
        answers.add((long) x.look());
        answers.addAll(otherAnswers(x));
        for (int f = 0; f < 4; f++) {
            answers.add((long) x.run(f, 3, 2, 1));
            answers.addAll(otherAnswers(x));
            answers.add((long) x.bound(f));
            answers.addAll(boundAnswers(x));
        }
        for (int f = 0; f < 4; f++) {
            answers.add((long) x.word(f, 0));
            answers.add(x.cut(f, 2) ? 1L : 0L);
            answers.add((long) x.look());
            answers.addAll(otherAnswers(x));
        }
        for (int n = 0; n < 3; n++) {
            answers.add((long) x.function(2));
        }
        return answers;
    }
}
