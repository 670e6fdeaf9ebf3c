import java.io.IOException;

/** The document, sentence by sentence: each has a test of its own, on both sides of the limits that it names. */
public final class DocumentTest {
    public static void main(String[] args) throws IOException {
        mostCalls();
        BodyTerms.all();
        RunTerms.all();
        BoundTerms.all();
        BodyPromises.all();
        RunPromises.all();
        BoundPromises.all();
        Document.compare(Check.said());
        Check.end("DocumentTest");
    }

    private static void mostCalls() {
        Check.says("An object is used for at most 512 calls after it has been made; what later calls answer is free.");
        PotentialBench x = Towers.tall();
        // how many words there are is counted by two calls more for each function
        int calls = 4;
        for (int f = 0; f < 4; f++) {
            int words = x.word(f, 0) - 1;
            x.cut(f, words);
            calls += words + 2;
        }
        long q = 14000L * 92 * 92 * 92;
        while (calls + 3 <= 512) {
            calls += 3;
            Check.due("bound", x.bound(3), 1);
            Check.due("scaled", x.scaled(0, 0), q);
            Check.due("run", x.run(0, 59, 0, 0), 0);
        }
        while (calls < 512) {
            calls++;
            Check.due("cost", x.cost(), 59 * 14000);
        }
        // nothing is promised now but that a call comes back
        x.look();
        x.word(0, 0);
        x.bound(3);
        x.run(3, 3000, 0, 0);
        x.scaled(0, 40);
    }
}
