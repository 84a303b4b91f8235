import java.io.IOException;
import java.nio.file.DirectoryStream;
import java.nio.file.Files;
import java.nio.file.Path;
import java.util.ArrayList;
import java.util.List;
import java.util.Map;
import java.util.TreeMap;
import java.util.regex.Matcher;
import java.util.regex.Pattern;

/** Every word of 'Terms' and of each promise stands in the words that some test names as those it holds. */
public final class CoverTest {
    private static final int PROMISES = 44;
    private static final String TEXT = "\"(?:[^\"\\\\]|\\\\.)*\"";
    private static final Pattern NAMED = Pattern.compile(
        "Doc\\.(opening|terms|promise)\\(\\s*(?:([0-9]+),\\s*)?((?:" + TEXT + "[\\s+]*)+)\\)");

    private final Map<String, List<String>> named = new TreeMap<>();

    public static void main(String[] args) throws IOException {
        new CoverTest().run();
        Checks.end("CoverTest");
    }

    private void run() throws IOException {
        try (DirectoryStream<Path> files = Files.newDirectoryStream(Path.of("src/test/java"), "*EdgesTest.java")) {
            for (Path file : files) {
                read(Files.readString(file));
            }
        }
        for (int n = 1; n <= PROMISES; n++) {
            String body = Doc.section("Promise " + n);
            dueCovered("Promise " + n, body.replaceFirst("^`[^`]*`: ", ""));
        }
        String terms = Doc.section("Terms");
        int end = terms.indexOf("Ahead of the calls");
        dueCovered("Terms", end < 0 ? terms : terms.substring(0, end));
        Checks.due("the 512 calls", named.containsKey("What it is") ? 1 : 0, 1);
    }

    private void read(String source) {
        Matcher m = NAMED.matcher(source);
        while (m.find()) {
            String heading = m.group(1).equals("opening") ? "What it is"
                : m.group(1).equals("terms") ? "Terms" : "Promise " + m.group(2);
            StringBuilder words = new StringBuilder();
            Matcher part = Pattern.compile(TEXT).matcher(m.group(3));
            while (part.find()) {
                words.append(part.group(), 1, part.group().length() - 1);
            }
            named.computeIfAbsent(heading, h -> new ArrayList<>()).add(words.toString());
        }
    }

    private void dueCovered(String heading, String body) {
        StringBuilder left = new StringBuilder(body);
        for (String words : named.getOrDefault(heading, List.of())) {
            for (int i = body.indexOf(words); i >= 0; i = body.indexOf(words, i + 1)) {
                left.replace(i, i + words.length(), "_".repeat(words.length()));
            }
        }
        String rest = left.toString().replaceAll("[^A-Za-z0-9]+", " ").trim();
        Checks.due(heading + " has words, ", body.isEmpty() ? 0 : 1, 1);
        Checks.due(heading + ": words that no test names: '" + rest + "',", rest.length(), 0);
    }
}
