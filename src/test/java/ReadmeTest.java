import java.io.IOException;
import java.lang.reflect.Method;
import java.lang.reflect.Modifier;
import java.net.URL;
import java.net.URLClassLoader;
import java.nio.file.DirectoryStream;
import java.nio.file.Files;
import java.nio.file.Path;
import java.util.ArrayList;
import java.util.Comparator;
import java.util.List;
import java.util.Set;
import java.util.TreeSet;
import java.util.regex.Matcher;
import java.util.regex.Pattern;
import java.util.stream.Stream;

/** README.md's use of the class: its Java is compiled as it stands and run, each call answering as it says. */
public final class ReadmeTest {
    private static final int CALLS = 512;
    private static final Pattern CALL = Pattern.compile("^(\\s*)(x\\.(\\w+)\\(.*\\));\\s*// (-?[0-9]+)\\b(.*)$");

    private final Set<String> shown = new TreeSet<>();
    private final List<Object[]> answers = new ArrayList<>();

    public static void main(String[] args) throws Exception {
        new ReadmeTest().run(Files.readString(Path.of("README.md")));
        Checks.end("ReadmeTest");
    }

    private void run(String readme) throws Exception {
        String source = sourceOf(readme);
        Path made = Files.createTempDirectory("readme");
        try {
            make(made, source);
        } finally {
            remove(made);
        }
        Checks.due("there are answers", answers.isEmpty() ? 0 : 1, 1);
        Checks.due("calls of one object: " + answers.size(), answers.size() <= CALLS ? 1 : 0, 1);
        for (Object[] a : answers) {
            Checks.due("README.md: " + a[0], (Long) a[1], (Long) a[2]);
        }
        allCallsAreShown();
        allTestsAreNamed(readme);
    }

    /** A class of the Java in README.md, in which each call hands on what it answered and what README.md says. */
    private String sourceOf(String readme) {
        StringBuilder s = new StringBuilder("public final class ReadmeUse {\n"
            + "public static void use(java.util.List<Object[]> answers) {\n");
        boolean here = false;
        for (String line : readme.split("\n")) {
            if (line.startsWith("```")) {
                here = line.equals("```java");
            } else if (here) {
                s.append(looked(line)).append('\n');
            }
        }
        return s.append("}\n}\n").toString();
    }

    private String looked(String line) {
        Matcher m = CALL.matcher(line);
        if (!m.matches()) {
            Checks.due("a call without its answer: '" + line + "'", line.contains("x.") ? 1 : 0, 0);
            return line;
        }
        shown.add(m.group(3));
        dueNamed(line, m.group(4), m.group(5));
        String call = m.group(2);
        return m.group(1) + "answers.add(new Object[] {\"" + call + "\", (long) " + call + ", " + m.group(4) + "L});";
    }

    /** Where README.md tells a constant's name behind a number, that constant is that number. */
    private static void dueNamed(String line, String number, String rest) {
        Matcher name = Pattern.compile("^ \\(([A-Z]+)\\)").matcher(rest);
        if (name.find()) {
            int constant;
            switch (name.group(1)) {
                case "BAD": constant = PumpSpells.BAD; break;
                case "STATE": constant = PumpSpells.STATE; break;
                case "FINDING": constant = PumpSpells.FINDING; break;
                case "NONE": constant = PumpSpells.NONE; break;
                default: constant = 0; break;
            }
            Checks.due("the name in '" + line + "'", Long.parseLong(number), constant);
        }
    }

    private void make(Path folder, String source) throws Exception {
        Path file = folder.resolve("ReadmeUse.java");
        Files.writeString(file, source);
        int exit = new ProcessBuilder("javac", "--release", "17", "-cp", System.getProperty("java.class.path"),
            "-d", folder.toString(), file.toString()).inheritIO().start().waitFor();
        Checks.due("javac of README.md's Java", exit, 0);
        if (exit == 0) {
            try (URLClassLoader loader = new URLClassLoader(new URL[] {folder.toUri().toURL()})) {
                loader.loadClass("ReadmeUse").getMethod("use", List.class).invoke(null, answers);
            }
        }
    }

    private static void remove(Path folder) throws IOException {
        try (Stream<Path> files = Files.walk(folder)) {
            for (Path p : (Iterable<Path>) files.sorted(Comparator.reverseOrder())::iterator) {
                Files.delete(p);
            }
        }
    }

    private void allCallsAreShown() {
        for (Method m : PumpSpells.class.getDeclaredMethods()) {
            if (Modifier.isPublic(m.getModifiers())) {
                Checks.due("README.md shows " + m.getName(), shown.contains(m.getName()) ? 1 : 0, 1);
            }
        }
    }

    private static void allTestsAreNamed(String readme) throws IOException {
        try (DirectoryStream<Path> files = Files.newDirectoryStream(Path.of("src/test/java"), "*Test.java")) {
            for (Path file : files) {
                String name = file.getFileName().toString().replace(".java", "");
                Checks.due("README.md names " + name, readme.contains("`" + name + "`") ? 1 : 0, 1);
            }
        }
        Checks.due("README.md tells how to run them", readme.contains("\n.ci/run\n") ? 1 : 0, 1);
    }
}
