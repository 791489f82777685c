import java.io.IOException;
import java.nio.file.Files;
import java.nio.file.Path;

/** Checks of single sentences of the document: a wrong answer is told with the section and the words it breaks. */
final class Sentences {
    private static final Path DOCUMENT = Path.of("../shared/DOC.md");

    private final Check check = new Check();
    private final String document;
    private String current = "";
    private int checksOfCurrent = 1;

    Sentences() {
        String text;
        try {
            text = Files.readString(DOCUMENT);
        } catch (IOException e) {
            text = "";
        }
        document = text;
    }

    /** What follows is checked for these words, which must stand in that section: else nobody could find them. */
    void sentence(String section, String words) {
        endCurrent();
        current = section + " | " + words + " | ";
        checksOfCurrent = 0;
        check.holds(current + "stands in the document", inOneLine(section(section)).contains(inOneLine(words)));
    }

    void same(String what, long got, long due) {
        checksOfCurrent++;
        check.same(current + what, got, due);
    }

    void end(String test) {
        endCurrent();
        check.end(test);
    }

    private void endCurrent() {
        check.holds(current + "is checked", checksOfCurrent > 0);
    }

    private String section(String title) {
        int from = document.indexOf("\n## " + title + "\n");
        if (from < 0) {
            return "";
        }
        int to = document.indexOf("\n## ", from + 1);
        return to < 0 ? document.substring(from) : document.substring(from, to);
    }

    private static String inOneLine(String text) {
        return text.replaceAll("\\s+", " ");
    }
}
