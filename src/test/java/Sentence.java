import java.io.IOException;
import java.nio.file.Files;
import java.nio.file.Path;

/** A sentence of the document, quoted as it stands there, with the test of its own that it has. */
final class Sentence {
    private static final Path DOCUMENT = Path.of("..", "shared", "DOC.md");
    private static String section = "";
    private static String sectionsText = "";

    private Sentence() {
    }

    /** The sentences from here on stand under this heading. */
    static void under(String heading) {
        section = heading;
        sectionsText = textUnder(heading);
    }

    static void says(String words, Runnable test) {
        int asked = Check.asked();
        int wrong = Check.wrong();
        Check.lookAt(section + " says '" + words + "': ");
        Check.holds("it stands there", sectionsText == null || sectionsText.contains(words));
        try {
            test.run();
        } catch (RuntimeException thrown) {
            Check.holds("no call throws, but here was " + thrown, false);
        }
        Check.holds("it has a test", Check.asked() > asked + 1);
        if (Check.wrong() > wrong) {
            System.out.println("BROKEN: " + section + ": " + words);
        }
        Check.lookAt("");
    }

    /** Null without a document: then the tests stand for themselves. */
    private static String textUnder(String heading) {
        if (!Files.isReadable(DOCUMENT)) {
            return null;
        }
        try {
            String text = "\n" + Files.readString(DOCUMENT);
            int from = text.indexOf("\n## " + heading + "\n");
            int to = from < 0 ? -1 : text.indexOf("\n## ", from + 1);
            return from < 0 ? "" : text.substring(from, to < 0 ? text.length() : to);
        } catch (IOException unreadable) {
            return null;
        }
    }
}
