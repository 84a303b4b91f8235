import java.lang.reflect.Constructor;
import java.lang.reflect.Field;
import java.lang.reflect.Method;
import java.lang.reflect.Modifier;
import java.nio.file.Files;
import java.nio.file.Path;
import java.util.Set;
import java.util.TreeSet;
import java.util.regex.Matcher;
import java.util.regex.Pattern;

/** The public face, and those rules of LANGUAGE.md that a glance at the class or its file can tell. */
public final class FaceTest {
    private static final String[] FACE = {
        "int row(int, int)", "int lay(int, int, int)", "int at(int, int)", "int tear(int)",
        "int copy(int, int, int, int, int)", "int mean(int)", "int text(int, int)", "int put(int, int, int)",
        "int fault(int)", "int ship(int)", "int gang(int, int)", "int mark(int, int)", "int force(int, int)",
        "int tell(int)", "int can()", "int act(int)", "int undo(int)", "int keep(int)", "int on(int)",
        "int run(int)", "int best(int, int)", "int afloat(int)", "int firsts(int)", "int rota(int)",
        "int watch(int, int)", "int lasts(int)", "int inches(int, int, int)", "int lighten(int)", "int rest(int)",
        "int gains(int)", "int feigns(int)", "int kinds(int, int)", "int leaks(int)", "int odds(int, int, int)",
        "int mid(int, int, int)", "int lots(int, int)", "int asked()", "long upper()", "long lower()",
        "int count(int)", "int finding()", "int findings(int)", "long digest()",
    };
    private static final String[] CONSTANTS = {"BAD", "FULL", "FINDING", "STATE", "SPENT", "NONE"};
    private static final String FORBIDDEN =
        "throw|throws|try|catch|synchronized|assert|protected|Object|equals|hashCode|toString|Random|System\\.(?!arraycopy)"
        + "|instanceof|Iterator|Thread|Exact|volatile|native|finalize|->|::";

    public static void main(String[] args) throws Exception {
        document();
        methods();
        constants();
        others();
        nested();
        source();
        Checks.end("FaceTest");
    }

    /** FACE and CONSTANTS are all that the document's own face has, and nothing beside it. */
    private static void document() {
        String face = Doc.section("The public face");
        Checks.due("the class in the document", face.startsWith("public final class PumpSpells {") ? 1 : 0, 1);
        Set<String> signs = new TreeSet<>();
        Matcher m = Pattern.compile("public (int|long) (\\w+)\\(([^)]*)\\);").matcher(face);
        while (m.find()) {
            signs.add(m.group(1) + " " + m.group(2) + "(" + m.group(3).replaceAll("int \\w+", "int") + ")");
        }
        Checks.due("methods of the document " + signs, signs.equals(Set.of(FACE)) ? 1 : 0, 1);
        for (String name : CONSTANTS) {
            Checks.due("the document has " + name, face.contains(" " + name + " = ") ? 1 : 0, 1);
        }
        // the class itself, its constants, its constructor, then its methods
        Checks.due("what is public in the document", face.split("public ", -1).length - 1, FACE.length + 3);
    }

    private static void methods() {
        Set<String> face = new TreeSet<>(Set.of(FACE));
        for (Method m : PumpSpells.class.getDeclaredMethods()) {
            if (!Modifier.isPrivate(m.getModifiers())) {
                StringBuilder s = new StringBuilder();
                for (Class<?> c : m.getParameterTypes()) {
                    s.append(s.length() == 0 ? "" : ", ").append(c.getName());
                }
                String sign = m.getReturnType() + " " + m.getName() + "(" + s + ")";
                Checks.due("a public method " + sign, face.remove(sign) ? 1 : 0, 1);
                Checks.due("modifiers of " + sign, m.getModifiers(), Modifier.PUBLIC);
            }
        }
        Checks.due("methods that are missing " + face, face.size(), 0);
    }

    private static void constants() {
        Set<String> names = new TreeSet<>(Set.of(CONSTANTS));
        for (Field f : PumpSpells.class.getDeclaredFields()) {
            if (!Modifier.isPrivate(f.getModifiers())) {
                Checks.due("a constant " + f.getName(), names.remove(f.getName()) ? 1 : 0, 1);
                Checks.due("modifiers of " + f.getName(), f.getModifiers(),
                    Modifier.PUBLIC | Modifier.STATIC | Modifier.FINAL);
            }
        }
        Checks.due("constants that are missing " + names, names.size(), 0);
        Checks.due("BAD", PumpSpells.BAD, -1);
        Checks.due("FULL", PumpSpells.FULL, -2);
        Checks.due("FINDING", PumpSpells.FINDING, -3);
        Checks.due("STATE", PumpSpells.STATE, -4);
        Checks.due("SPENT", PumpSpells.SPENT, -6);
        Checks.due("NONE", PumpSpells.NONE, -9);
    }

    private static void others() {
        Constructor<?>[] made = PumpSpells.class.getDeclaredConstructors();
        Checks.due("one constructor", made.length, 1);
        Checks.due("a public one", made[0].getModifiers(), Modifier.PUBLIC);
        Checks.due("without numbers", made[0].getParameterCount(), 0);
        Checks.due("the class", PumpSpells.class.getModifiers(), Modifier.PUBLIC | Modifier.FINAL);
        Checks.due("nothing above it", PumpSpells.class.getSuperclass() == Object.class ? 1 : 0, 1);
        Checks.due("no interface", PumpSpells.class.getInterfaces().length, 0);
    }

    private static void nested() {
        Class<?>[] inside = PumpSpells.class.getDeclaredClasses();
        Checks.due("at most twelve classes", inside.length <= 12 ? 1 : 0, 1);
        Set<String> names = new TreeSet<>();
        for (String sign : FACE) {
            names.add(sign.substring(sign.indexOf(' ') + 1, sign.indexOf('(')));
        }
        for (Class<?> c : inside) {
            Checks.due(c + " is static", Modifier.isStatic(c.getModifiers()) ? 1 : 0, 1);
            Checks.due(c + " is not public", Modifier.isPublic(c.getModifiers()) ? 1 : 0, 0);
            dueOtherNames(c, names);
        }
        for (Method m : PumpSpells.class.getDeclaredMethods()) {
            if (Modifier.isPrivate(m.getModifiers())) {
                Checks.due("no private method " + m.getName(), names.contains(m.getName()) ? 1 : 0, 0);
            }
        }
    }

    private static void dueOtherNames(Class<?> c, Set<String> names) {
        for (Method m : c.getDeclaredMethods()) {
            Checks.due("no method " + m.getName() + " of " + c, names.contains(m.getName()) ? 1 : 0, 0);
            Checks.due("at most seven parameters of " + m, m.getParameterCount() <= 7 ? 1 : 0, 1);
        }
        int fields = 0;
        for (Field f : c.getDeclaredFields()) {
            fields += Modifier.isStatic(f.getModifiers()) ? 0 : 1;
        }
        Checks.due("at most twenty fields of " + c, fields <= 20 ? 1 : 0, 1);
    }

    private static void source() throws Exception {
        String text = Files.readString(Path.of("src/main/java/PumpSpells.java"));
        String code = text.replaceAll("(?s)/\\*.*?\\*/", " ").replaceAll("//[^\n]*", " ");
        Matcher m = Pattern.compile("(?<![A-Za-z])(" + FORBIDDEN + ")(?![A-Za-z])").matcher(code);
        while (m.find()) {
            Checks.due("the word " + m.group(), 1, 0);
        }
        Matcher imports = Pattern.compile("import ([^;]*);").matcher(code);
        while (imports.find()) {
            Checks.due("import " + imports.group(1), imports.group(1).equals("java.util.Arrays") ? 1 : 0, 1);
        }
    }
}
