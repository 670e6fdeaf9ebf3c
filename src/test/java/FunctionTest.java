/** Promises 1 to 4: a new object, function, word, cut. */
public final class FunctionTest {
    private static final int BAD = PotentialBench.BAD;
    private static final int NO = PotentialBench.NO;
    private static final int FULL = PotentialBench.FULL;

    public static void main(String[] args) {
        newObject();
        functions();
        words();
        cuts();
        objectsAreApart();
        Check.end("FunctionTest");
    }

    private static void newObject() {
        PotentialBench x = new PotentialBench();
        Check.due("new: look", x.look(), 0);
        Check.due("new: place", x.place(), NO);
        Check.due("new: word", x.word(0, 0), BAD);
        Check.due("new: cut", x.cut(0, 0), false);
        Check.due("new: run", x.run(0, 0, 0, 0), BAD);
        Check.due("new: cost", x.cost(), 0);
        Check.due("new: given", x.given(), NO);
        Check.due("new: steps", x.steps(), 0);
        Check.due("new: bound", x.bound(0), BAD);
        Check.due("new: told 0", x.told(0), NO);
        Check.due("new: told 1", x.told(1), NO);
        Check.due("new: scaled 0", x.scaled(0, 0), NO);
        Check.due("new: scaled 3", x.scaled(3, 0), NO);
        Check.due("new: covers", x.covers(0, 0, 0, 0), NO);
        Check.due("new: first function", x.function(0), 0);
    }

    private static void functions() {
        PotentialBench x = new PotentialBench();
        int[] wrong = {-1, 4, 5, Integer.MIN_VALUE, Integer.MAX_VALUE};
        for (int takes : wrong) {
            Check.due("function(" + takes + ")", x.function(takes), BAD);
        }
        for (int f = 0; f < 4; f++) {
            Check.due("function " + f, x.function(3 - f), f);
        }
        Check.due("a fifth function", x.function(0), FULL);
        Check.due("a sixth function", x.function(3), FULL);
        for (int takes : wrong) {
            Check.due("function(" + takes + ") when full", x.function(takes), BAD);
        }
        Check.due("all are without a body", x.look(), -1);
        Check.due("all are without a body, place", x.place(), 0);
        // each takes what was told for it: as many variables as that are known
        for (int f = 0; f < 4; f++) {
            for (int v = 2 - f; v >= 0; v--) {
                Check.words(x, f, 6, 1, v);
            }
            x.word(f, 0);
        }
        Check.due("each takes so many", x.look(), 0);
        for (int f = 0; f < 4; f++) {
            x.cut(f, 0);
            Check.words(x, f, 1, 3 - f);
            Check.due("function " + f + " takes no more", x.look(), -1 - f);
            Check.due("function " + f + " takes no more, place", x.place(), 1);
            x.cut(f, 0);
            x.word(f, 0);
        }
    }

    private static void words() {
        PotentialBench x = new PotentialBench();
        x.function(1);
        x.function(0);
        int[] any = {0, 1, -1, 7, 1001, Integer.MIN_VALUE, Integer.MAX_VALUE};
        for (int i = 0; i < any.length; i++) {
            Check.due("word " + any[i], x.word(0, any[i]), i + 1);
        }
        Check.due("words of another function", x.word(1, 5), 1);
        Check.due("no such function", x.word(2, 0), BAD);
        Check.due("no such function", x.word(-1, 0), BAD);
        Check.due("no such function", x.word(Integer.MAX_VALUE, 0), BAD);
        for (int i = any.length; i < 200; i++) {
            Check.due("word " + i, x.word(0, 2), i + 1);
        }
        Check.due("a 201st word", x.word(0, 0), FULL);
        Check.due("a 201st word again", x.word(0, 0), FULL);
        Check.due("no such function when full", x.word(4, 0), BAD);
        Check.due("another function is not full", x.word(1, 0), 2);
        Check.due("room again", x.cut(0, 199), true);
        Check.due("the 200th word again", x.word(0, 0), 200);
        Check.due("full again", x.word(0, 0), FULL);
    }

    private static void cuts() {
        PotentialBench x = Check.bench(1, 2, 4, 9, 1, 0);
        Check.due("cut to what there is", x.cut(0, 5), true);
        Check.due("cut to more", x.cut(0, 6), false);
        Check.due("cut below 0", x.cut(0, -1), false);
        Check.due("cut below 0", x.cut(0, Integer.MIN_VALUE), false);
        Check.due("cut to most", x.cut(0, Integer.MAX_VALUE), false);
        Check.due("no such function", x.cut(1, 0), false);
        Check.due("no such function", x.cut(-1, 0), false);
        Check.due("nothing was cut", x.look(), 0);
        Check.due("cut", x.cut(0, 3), true);
        Check.due("words lack", x.look(), -1);
        Check.due("words lack, place", x.place(), 3);
        Check.due("what was cut is gone", x.cut(0, 4), false);
        Check.due("a word behind the cut", x.word(0, 0), 4);
        Check.due("right", x.look(), 0);
        Check.run(x, "the first words stay", x.run(0, 8, 0, 0), 9, 1, 3);
        Check.due("cut to none", x.cut(0, 0), true);
        Check.due("cut to none again", x.cut(0, 0), true);
        Check.due("no words", x.look(), -1);
        Check.due("no words, place", x.place(), 0);
        Check.due("a first word", x.word(0, 0), 1);
    }

    private static void objectsAreApart() {
        PotentialBench x = Check.bench(0, 4, 3, 0);
        PotentialBench y = new PotentialBench();
        Check.due("x", x.run(0, 0, 0, 0), 0);
        Check.due("x", x.bound(0), 1);
        Check.due("y has no function", y.run(0, 0, 0, 0), BAD);
        Check.due("y has no cost", y.cost(), 0);
        Check.due("y has no bounds", y.scaled(3, 0), NO);
        Check.due("x has a cost", x.cost(), 3);
        Check.due("x has bounds", x.scaled(3, 0), 3);
    }
}
