import java.io.IOException;
import java.nio.file.Files;
import java.nio.file.Path;
import java.util.List;

/** The words of the document, and which of them the tests have quoted. */
final class Document {
    private static final Path PLACE = Path.of("../shared/DOC.md");
    private final String text;
    private final boolean[] isQuoted;

    private Document(String text) {
        this.text = text;
        this.isQuoted = new boolean[text.length()];
    }

    /** Notes, for those who write tests, what is quoted but not there, and what is there but not quoted. */
    static void compare(List<String> quotes) throws IOException {
        if (!Files.isReadable(PLACE)) {
            System.out.println("note: there is no document to compare with");
            return;
        }
        String all = Files.readString(PLACE).replaceAll("\\s+", " ").replaceAll("## The public face .* ## Terms", "");
        int from = all.indexOf("An object is used");
        int to = all.indexOf("## Not promised");
        if (from < 0 || to < from) {
            System.out.println("note: the document has other parts now");
            return;
        }
        Document document = new Document(all.substring(from, to));
        quotes.forEach(document::quote);
        document.tellTheRest();
    }

    /** Where the same words stand more than once, each quote is of the next place. */
    private void quote(String words) {
        int at = text.indexOf(words);
        while (at >= 0 && isQuoted[at]) {
            at = text.indexOf(words, at + 1);
        }
        if (at < 0) {
            System.out.println("note: not in the document: " + words);
            return;
        }
        for (int i = at; i < at + words.length(); i++) {
            isQuoted[i] = true;
        }
    }

    private void tellTheRest() {
        StringBuilder rest = new StringBuilder();
        for (int i = 0; i < isQuoted.length; i++) {
            rest.append(isQuoted[i] ? '\n' : text.charAt(i));
        }
        for (String part : rest.toString().split("\n")) {
            String words = part.replaceAll("## Promise \\d+: [A-Za-z ]+`[^`]*`:", "").replaceAll("```(text)?", "").strip();
            if (!words.isEmpty()) {
                System.out.println("note: no test quotes: " + words);
            }
        }
    }
}
