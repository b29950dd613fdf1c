import java.io.IOException;
import java.nio.file.Files;
import java.nio.file.Path;

/** Checks under a sentence of the document: what is not as due is told with its promise and its words. */
final class Sentences {
    private static final Path DOCUMENT = Path.of("../shared/DOC.md");

    private final Checks checks = new Checks();
    private final String document;
    private String head = "";

    Sentences() {
        String text = "";
        try {
            text = Files.readString(DOCUMENT);
        } catch (IOException gone) {
            System.out.println("no " + DOCUMENT + ": whether its sentences are quoted well is not looked at");
        }
        document = oneLine(text);
    }

    private static String oneLine(String text) {
        return text.replaceAll("\\s+", " ");
    }

    /** The sentence that the class is held to from here on; its words must be the document's. */
    void holds(int promise, String sentence) {
        head = "Promise " + promise + ", \"" + sentence + "\": ";
        if (!document.isEmpty()) {
            boolean quoted = document.contains(oneLine(sentence))
                && document.contains("## Promise " + promise + ":");
            checks.due(head + "in the document", quoted ? 1 : 0, 1);
        }
    }

    void due(String call, long got, long want) {
        checks.due(head + call, got, want);
    }

    void end() {
        checks.end();
    }
}
