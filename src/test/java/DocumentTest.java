import java.io.IOException;

/** The document, sentence by sentence: each has a test of its own, on both sides of the limits that it names. */
public final class DocumentTest {
    public static void main(String[] args) throws IOException {
        BodyTerms.all();
        RunTerms.all();
        BoundTerms.all();
        BodyPromises.all();
        RunPromises.all();
        BoundPromises.all();
        Document.compare(Check.said());
        Check.end("DocumentTest");
    }
}
