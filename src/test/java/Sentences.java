import java.io.IOException;
import java.nio.file.Files;
import java.nio.file.Path;
import java.util.HashSet;
import java.util.Set;

/** Tests of which each bears the sentence of the document that it holds the class to. */
final class Sentences {
    /** A test of one sentence. */
    interface Test {
        void run(Check c);
    }

    private static final Path DOCUMENT = Path.of("../shared/DOC.md");
    private final Check check = new Check();
    private final String document;
    private final Set<String> told = new HashSet<>();
    private String title = "";
    private String section = "";

    Sentences() throws IOException {
        document = Files.exists(DOCUMENT) ? Files.readString(DOCUMENT) : "";
    }

    /** The sentences that come now are of the document's section whose heading begins so. */
    void of(String heading) {
        title = heading;
        check.about(title);
        int from = ("\n" + document).indexOf("\n## " + heading);
        check.isTrue("there is such a section", from >= 0 || document.isEmpty());
        int behind = document.indexOf("\n## ", Math.max(0, from) + 1);
        section = from < 0 ? "" : plain(document.substring(from, behind < 0 ? document.length() : behind));
    }

    /** A sentence, or as much of one as names the edge, in the document's words. */
    void says(String sentence, Test test) {
        check.about(title + " \"" + sentence + "\"");
        check.isTrue("the document says so", section.contains(plain(sentence)) || document.isEmpty());
        check.isTrue("one test of it", told.add(title + sentence));
        int before = check.asked();
        test.run(check);
        check.isTrue("something was asked", check.asked() > before);
    }

    void finish() {
        System.out.println(told.size() + " sentences");
        check.finish();
    }

    private static String plain(String text) {
        return text.replaceAll("\\s+", " ").trim();
    }
}
