import java.io.IOException;
import java.nio.file.Files;
import java.nio.file.Path;

/** The document: a test names the very words that it holds, and they must stand there. */
final class Doc {
    private static final Path FILE = Path.of("../shared/DOC.md");

    private Doc() {
    }

    static void opening(String words) {
        holds("What it is", words);
    }

    static void terms(String words) {
        holds("Terms", words);
    }

    static void promise(int n, String words) {
        holds("Promise " + n, words);
    }

    private static void holds(String heading, String words) {
        Checks.holds(heading + ": " + words);
        Checks.due("the document has these words", section(heading).contains(words) ? 1 : 0, 1);
    }

    /** What stands under a heading, in one line, without the signs that are there for the page alone. */
    static String section(String heading) {
        StringBuilder s = new StringBuilder();
        boolean here = false;
        for (String line : text().split("\n")) {
            if (line.startsWith("## ")) {
                here = line.equals("## " + heading) || line.startsWith("## " + heading + ":");
            } else if (here && !line.startsWith("```")) {
                s.append(line).append(' ');
            }
        }
        return s.toString().replaceAll("======== [0-9]+ ", "").replaceAll("\\s+", " ").trim();
    }

    private static String text() {
        try {
            return Files.readString(FILE);
        } catch (IOException e) {
            return "";
        }
    }
}
