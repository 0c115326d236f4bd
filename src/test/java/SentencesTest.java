import java.io.IOException;
import java.nio.file.Files;
import java.nio.file.Path;
import java.util.ArrayList;
import java.util.List;

/** Every sentence of the document has a test of its own (promises 1 to 21, and the terms), and holds. */
public final class SentencesTest {
    private static final Path DOCUMENT = Path.of("../shared/DOC.md");
    private static final int PROMISES = 21;

    private SentencesTest() {
    }

    private static List<Sentence> all() {
        List<Sentence> all = new ArrayList<>();
        all.addAll(RowSentences.all());
        all.addAll(TreeSentences.all());
        all.addAll(SeekSentences.all());
        all.addAll(TransactionSentences.all());
        all.addAll(PowerSentences.all());
        all.addAll(ToldSentences.all());
        return all;
    }

    private static void hold(Sentence sentence) {
        Expect.about("promise " + sentence.promise() + ", \"" + sentence.words() + "\": ");
        try {
            sentence.test().run();
        } catch (RuntimeException | Error e) {
            Expect.fault("threw " + e + " at " + placeInTest(e));
        }
    }

    private static String placeInTest(Throwable thrown) {
        for (StackTraceElement at : thrown.getStackTrace()) {
            if (at.getClassName().endsWith("Sentences")) {
                return at.toString();
            }
        }
        return "no place of a test";
    }

    /** What stands between two texts, the second of which may be the document's end. */
    private static String between(String document, String begin, String end) {
        int from = document.indexOf(begin);
        int to = document.indexOf(end, from + begin.length());
        return from < 0 ? "" : document.substring(from + begin.length(), to < 0 ? document.length() : to);
    }

    /** What the document says of a promise behind its face; 0: the terms, and how many calls there are. */
    private static String said(String document, int promise) {
        if (promise == 0) {
            return between(document, "any byte of any write.", "## The public face")
                + between(document, "## Terms", "## Promise 1:");
        }
        String section = between(document, "## Promise " + promise + ": ", "\n## ");
        return section.substring(section.indexOf("`: ") + 3);
    }

    private static void cover(String text, int promise, List<Sentence> all) {
        boolean[] covered = new boolean[text.length()];
        for (Sentence sentence : all) {
            String words = sentence.words();
            int at = sentence.promise() == promise ? text.indexOf(words) : -1;
            Expect.yes("the document says: " + words, at >= 0 || sentence.promise() != promise);
            for (; at >= 0; at = text.indexOf(words, at + 1)) {
                java.util.Arrays.fill(covered, at, at + words.length(), true);
            }
        }
        StringBuilder left = new StringBuilder();
        for (int i = 0; i < covered.length; i++) {
            boolean isWord = Character.isLetterOrDigit(text.charAt(i));
            left.append(covered[i] || !isWord ? "" : text.charAt(i));
        }
        Expect.yes("promise " + promise + ", a test for: " + left, left.length() == 0);
    }

    /** The tests stand without the document, too; it only tells whether one is missing. */
    private static void coverDocument(List<Sentence> all) throws IOException {
        if (!Files.exists(DOCUMENT)) {
            System.out.println("SentencesTest: no " + DOCUMENT + " to hold the sentences against");
            return;
        }
        String document = Files.readString(DOCUMENT);
        for (int promise = 0; promise <= PROMISES; promise++) {
            cover(said(document, promise).replaceAll("\\s+", " "), promise, all);
        }
    }

    public static void main(String[] args) throws IOException {
        List<Sentence> all = all();
        for (Sentence sentence : all) {
            hold(sentence);
        }
        Expect.about("");
        coverDocument(all);
        Expect.end("SentencesTest");
    }
}
