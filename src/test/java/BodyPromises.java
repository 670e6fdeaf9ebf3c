import java.util.Arrays;

/** Promises 1 to 6, sentence by sentence: a new object, function, word, cut, look, place. */
final class BodyPromises {
    private static final int BAD = PotentialBench.BAD;
    private static final int NO = PotentialBench.NO;
    private static final int FULL = PotentialBench.FULL;
    private static final int LEAST = Integer.MIN_VALUE;
    private static final int MOST = Integer.MAX_VALUE;
    /** Numbers that no function has. */
    private static final int[] NO_FUNCTION = {LEAST, -2, -1, 4, 5, 32, MOST};

    private BodyPromises() {
    }

    static void all() {
        newObject();
        function();
        word();
        cut();
        look();
        place();
        noPlace();
    }

    private static void newObject() {
        Check.says("No functions.");
        for (int f = -1; f <= 4; f++) {
            PotentialBench x = new PotentialBench();
            Check.due("word of " + f, x.word(f, 0), BAD);
            Check.due("cut of " + f, x.cut(f, 0), false);
            Check.due("run of " + f, x.run(f, 0, 0, 0), BAD);
            Check.due("bound of " + f, x.bound(f), BAD);
            Check.due("look", x.look(), 0);
            Check.due("place", x.place(), NO);
        }
        PotentialBench x = new PotentialBench();
        Check.due("cost", x.cost(), 0);
        Check.due("given", x.given(), NO);
        Check.due("steps", x.steps(), 0);
        Bounds.nothing(x, "new");
        Check.due("the first function", x.function(3), 0);
    }

    private static void function() {
        Check.says("A function that takes so many lists, without a body: its number.");
        PotentialBench x = new PotentialBench();
        for (int f = 0; f < 4; f++) {
            Check.due("function(" + f + ")", x.function(f), f);
            Check.due("it has no word", x.cut(f, 1), false);
            Check.due("it has no body, look", x.look(), -1 - f);
            Check.due("it has no body, place", x.place(), 0);
            // the last list that it takes, or without one the empty list
            Check.words(x, f, f == 0 ? Bodies.words(0) : Bodies.words(1, f - 1));
            Check.due("now it has one", x.look(), 0);
            Check.body(x, f, 1, f);
            Check.due("it takes no more", x.look(), -1 - f);
            Check.body(x, f, 0);
        }
        Check.says("BAD when that is not 0 .. 3;");
        int[] wrong = {LEAST, -4, -1, 4, 5, MOST};
        for (int takes : wrong) {
            PotentialBench y = new PotentialBench();
            Check.due("function(" + takes + ")", y.function(takes), BAD);
            Check.due("no function came of it", y.word(0, 0), BAD);
            Check.due("the next one is the first", y.function(0), 0);
            Check.due("function(" + takes + ")", y.function(takes), BAD);
            Check.due("the next one is the second", y.function(3), 1);
        }
        Check.says("FULL.");
        for (int takes = 0; takes <= 3; takes++) {
            Check.due("a fifth one", x.function(takes), FULL);
            Check.due("there is none", x.word(4, 0), BAD);
            Check.due("the others are as they were", x.look(), 0);
        }
        for (int takes : wrong) {
            Check.due("BAD also when full", x.function(takes), BAD);
        }
        Check.run(x, "the fourth takes three", x.run(3, 3000, 3000, 3000), 0, 0, 1);
        Check.due("the fourth takes three", x.run(3, 3000, 3000, 3001), BAD);
    }

    private static void word() {
        Check.says("A word more of the body of function f: how many it has.");
        PotentialBench x = new PotentialBench();
        x.function(1);
        x.function(1);
        Check.due("the first", x.word(0, 2), 1);
        Check.due("the first of the other", x.word(1, 0), 1);
        Check.due("the second", x.word(0, 1), 2);
        Check.due("the third", x.word(0, 0), 3);
        Check.due("look", x.look(), 0);
        Check.run(x, "in this order", x.run(0, 6, 0, 0), 0, 7, 2);
        int[] any = {LEAST, -1, 7, 1001, MOST};
        for (int i = 0; i < any.length; i++) {
            Check.due("any int is a word", x.word(0, any[i]), 4 + i);
        }
        Check.says("BAD when there is no such function;");
        for (int f : NO_FUNCTION) {
            Check.due("word of " + f, x.word(f, 0), BAD);
        }
        Check.due("word of 2, when there are two", x.word(2, 0), BAD);
        Check.due("word of 3, when there are two", x.word(3, 0), BAD);
        Check.due("the others have no more words", x.word(0, 0), 9);
        Check.due("the others have no more words", x.word(1, 0), 2);
        Check.says("FULL when it has 200.");
        x = Check.bench(1, 2, 1, 0);
        x.function(0);
        for (int i = 3; i < 200; i++) {
            Check.due("word " + i, x.word(0, MOST), i + 1);
        }
        Check.due("a 201st", x.word(0, 0), FULL);
        Check.due("a 201st again", x.word(0, 7), FULL);
        Check.due("the other has room", x.word(1, 0), 1);
        Check.due("there are 200", x.cut(0, 201), false);
        Check.due("there are 200", x.cut(0, 200), true);
        Check.due("still full", x.word(0, 0), FULL);
        Check.due("look", x.look(), -1);
        Check.due("the first too many", x.place(), 3);
        Check.due("one less", x.cut(0, 199), true);
        Check.due("room for one", x.word(0, 5), 200);
        Check.due("and no more", x.word(0, 5), FULL);
        Check.due("the first three", x.cut(0, 3), true);
        Check.due("they are as they were", x.look(), 0);
        Check.run(x, "they are as they were", x.run(0, 6, 0, 0), 0, 7, 2);
    }

    private static void cut() {
        Check.says("The body of function f has its first n words alone: true;");
        PotentialBench x = Check.bench(0, 4, 9, 4, 7, 0);
        Check.function(x, 0, 4, 1, 0);
        Check.due("all of them", x.cut(0, 5), true);
        Check.run(x, "all of them", x.run(0, 0, 0, 0), 16, 0, 3);
        Check.due("two of them", x.cut(0, 2), true);
        Check.due("some lack", x.look(), -1);
        Check.due("some lack, place", x.place(), 2);
        Check.due("the third", x.word(0, 0), 3);
        Check.run(x, "two of them and another", x.run(0, 0, 0, 0), 9, 0, 2);
        Check.run(x, "the other function has all", x.run(1, 0, 0, 0), 1, 0, 2);
        Check.due("none of them", x.cut(0, 0), true);
        Check.due("none of none", x.cut(0, 0), true);
        Check.due("look", x.look(), -1);
        Check.due("place", x.place(), 0);
        Check.due("what was cut does not come back", x.word(0, 4), 1);
        Check.due("look", x.look(), -1);
        Check.due("place", x.place(), 1);
        // behind the words that stay may have been any: they are not looked at
        int[] ends = {LEAST, -1, 7, 200, MOST};
        for (int word : ends) {
            x = Check.bench(1, Bodies.of(3, 0, 1, 0, 4, 2, 5, 0, 1, Bodies.times(5, word)));
            Check.due("cut to 9", x.cut(0, 9), true);
            Check.due("look", x.look(), 0);
            Check.run(x, "run", x.run(0, 5, 0, 0), 10, 0, 17);
            Bounds.best(x, 0, 2, 0);
            Bounds.told(x, 7, 8);
        }
        Check.says("false when there are not so many,");
        x = Check.bench(0, 4, 9, 0);
        int[] tooMany = {4, 5, 200, 201, MOST, -1, LEAST};
        for (int n : tooMany) {
            Check.due("cut to " + n, x.cut(0, n), false);
        }
        Check.due("nothing was cut", x.word(0, 0), 4);
        Check.due("now there are four", x.cut(0, 4), true);
        Check.due("and three", x.cut(0, 3), true);
        Check.due("and no more four", x.cut(0, 4), false);
        Check.run(x, "all is there", x.run(0, 0, 0, 0), 9, 0, 2);
        x.function(0);
        Check.due("one of none", x.cut(1, 1), false);
        Check.due("none of none", x.cut(1, 0), true);
        Check.says("or there is no such function.");
        for (int f : NO_FUNCTION) {
            Check.due("cut of " + f, x.cut(f, 0), false);
        }
        Check.due("cut of 2, when there are two", x.cut(2, 0), false);
        Check.due("cut of 3, when there are two", x.cut(3, 0), false);
        Check.due("nothing was cut", x.word(0, 0), 4);
    }

    private static void look() {
        Check.says("Whether each function's body is just one expression: 0 (also without functions);");
        PotentialBench x = new PotentialBench();
        Check.due("without functions", x.look(), 0);
        for (int f = 0; f < 4; f++) {
            Check.function(x, f, 0);
            Check.due(f + 1 + " functions", x.look(), 0);
        }
        Check.due("again", x.look(), 0);
        Check.says("or -1 less the first function's number where it is not.");
        int[][] wrong = {{}, {0, 0}, {2}, {7}};
        for (int[] body : wrong) {
            for (int f = 3; f >= 0; f--) {
                Check.body(x, f, body);
                Check.due("function " + f + " is wrong, and all later ones", x.look(), -1 - f);
            }
            for (int f = 0; f < 3; f++) {
                Check.body(x, f, 0);
                Check.due("function " + f + " is right, and all before", x.look(), -2 - f);
            }
            Check.body(x, 3, 0);
            Check.due("all are right", x.look(), 0);
        }
        // a call is right or wrong by the functions that there are now
        x = Check.bench(0, 5, 1);
        Check.due("a function that is not there yet", x.look(), -1);
        x.function(0);
        Check.due("now it is, but without a body", x.look(), -2);
        x.word(1, 0);
        Check.due("and now with one", x.look(), 0);
    }

    private static void place() {
        Check.says("In the body of the function of the latest look() that was not right: the first word that can't stand"
            + " there (its place;");
        PotentialBench x = Check.bench(1, 2, 0);
        Check.function(x, 1, 2, 2, 9, 0);
        Check.function(x, 1, 9);
        Check.due("the first function that is not right", x.look(), -2);
        Check.due("the first word in it that can't stand there", x.place(), 2);
        Check.due("place again", x.place(), 2);
        Check.body(x, 1, 2, 4, 5, 9);
        Check.due("before another look", x.place(), 2);
        Check.due("look", x.look(), -2);
        Check.due("after it", x.place(), 3);
        Bodies.wrong(0, 1, -1);
        Bodies.wrong(0, 1, 7, 7);
        Check.says("a variable that is not known,");
        Bodies.wrong(1, 1, 1, 1);
        Bodies.wrong(1, 1, 3, 1, 9, 9);
        Bodies.wrong(2, 1, 5, 0, 1);
        Bodies.wrong(5, 1, 6, 0, 5, 0, 1, 1);
        Bodies.wrong(4, 1, 6, 0, 5, 0, 2);
        Check.says("a number that is not as told,");
        Bodies.wrong(1, 1, 4, 1001, 0);
        Bodies.wrong(1, 1, 4, -1, 0);
        Bodies.wrong(1, 1, 5, 1, 0);
        Bodies.wrong(1, 1, 5, -1, 0);
        Check.says("a node too many or too deep,");
        Bodies.wrong(40, 0, Bodies.joined(21, 0));
        Bodies.wrong(16, 0, Bodies.chain(17));
        // the first of several: a number before a node too many, and the other way round
        int[] all = Bodies.of(4, 5, Bodies.joined(21, 0));
        all[1] = 1001;
        Bodies.wrong(1, 0, all);
        Bodies.wrong(40, 0, Bodies.of(Arrays.copyOf(Bodies.joined(21, 0), 40), 9, 9));
        Check.says("a word too many),");
        Bodies.wrong(1, 1, 0, 0);
        Bodies.wrong(2, 1, 1, 0, 5);
        Bodies.wrong(39, 0, Bodies.of(Bodies.joined(20, 0), 0));
        Bodies.wrong(16, 0, Bodies.of(Bodies.chain(16), Bodies.times(184, 0)));
        Check.says("or how many words there are, when some lack.");
        Bodies.wrong(0, 1);
        int[] whole = {6, 4, 9, 2, 1, 0, 3, 0, 5, 0, 0, 5, 0, 1};
        Bodies.right(1, whole);
        for (int count = 0; count < whole.length; count++) {
            Bodies.wrong(count, 1, Arrays.copyOf(whole, count));
        }
        Bodies.wrong(15, 0, Bodies.times(15, 2));
        Bodies.wrong(16, 0, Bodies.times(16, 2));
    }

    private static void noPlace() {
        Check.says("NO when all were right,");
        PotentialBench x = new PotentialBench();
        Check.due("look without functions", x.look(), 0);
        Check.due("place", x.place(), NO);
        x.function(1);
        Check.due("look", x.look(), -1);
        Check.due("place", x.place(), 0);
        x.word(0, 0);
        Check.due("look", x.look(), 0);
        Check.due("place", x.place(), NO);
        x.word(0, 0);
        Check.due("before another look", x.place(), NO);
        Check.says("or there was none.");
        x = Check.bench(1, 2);
        Check.due("wrong, but not looked at", x.place(), NO);
        Check.due("run is no look()", x.run(0, 0, 0, 0), BAD);
        Check.due("bound is no look()", x.bound(0), BAD);
        Check.due("place", x.place(), NO);
        Check.due("look", x.look(), -1);
        Check.due("place", x.place(), 1);
    }
}
