import java.io.IOException;
import java.nio.file.Files;
import java.nio.file.Path;

/** A sentence of the document that names a boundary, with the test that is its own. */
final class Edge {
    private static final String DOCUMENT = plain(read(Path.of("../shared/DOC.md")));

    private Edge() {
    }

    /** The words stand as in the document, so that a sentence that is told anew is looked at anew. */
    static void of(String sentence, Runnable test) {
        if (!DOCUMENT.isEmpty() && !DOCUMENT.contains(sentence)) {
            Check.wrong++;
            System.out.println("not in the document: " + sentence);
        }
        int wrong = Check.wrong;
        int asked = Check.asked;
        test.run();
        if (Check.asked == asked) {
            Check.wrong++;
            System.out.println("nothing was asked");
        }
        if (Check.wrong != wrong) {
            System.out.println("  so this does not hold: " + sentence);
        }
    }

    private static String read(Path path) {
        try {
            return Files.exists(path) ? Files.readString(path) : "";
        } catch (IOException e) {
            return "";
        }
    }

    private static String plain(String text) {
        return text.replaceAll("\\s+", " ");
    }
}
