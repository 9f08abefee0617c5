import java.lang.reflect.Constructor;
import java.lang.reflect.Executable;
import java.lang.reflect.Field;
import java.lang.reflect.Method;
import java.lang.reflect.Modifier;
import java.nio.file.Files;
import java.nio.file.Path;
import java.util.ArrayList;
import java.util.Arrays;
import java.util.List;
import java.util.TreeSet;
import java.util.regex.Pattern;

/** The face as the document has it, and those rules of LANGUAGE.md that can be read off the class. */
public final class FaceTest {
    private static final Due DUE = new Due();

    public static void main(String[] args) throws Exception {
        face();
        nothingElseShows();
        fields();
        sizes();
        words();
        makesNothingLater();
        DUE.end();
    }

    private static void face() throws Exception {
        DUE.promise(0, "the public face");
        List<String> document = new ArrayList<>();
        boolean inside = false;
        for (String line : Files.readAllLines(Path.of("../shared/DOC.md"))) {
            inside = inside ? !line.equals("}") : line.startsWith("public final class PulseMeadow");
            if (inside && line.startsWith("    public ")) {
                document.add(line.trim().replaceAll("(int|char) \\w+([,)])", "$1$2"));
            }
        }
        TreeSet<String> mine = new TreeSet<>();
        for (Constructor<?> c : PulseMeadow.class.getConstructors()) {
            mine.add(told(c, "public PulseMeadow"));
        }
        for (Method m : PulseMeadow.class.getDeclaredMethods()) {
            if (Modifier.isPublic(m.getModifiers())) {
                mine.add(told(m, "public " + m.getReturnType() + " " + m.getName()));
            }
        }
        DUE.is(42, document.size());
        DUE.is(new TreeSet<>(document), mine);
    }

    private static String told(Executable e, String head) {
        List<String> types = Arrays.stream(e.getParameterTypes()).map(Class::getSimpleName).toList();
        List<String> thrown = Arrays.stream(e.getExceptionTypes()).map(Class::getSimpleName).toList();
        String tail = thrown.isEmpty() ? ";" : " throws " + String.join(", ", thrown) + ";";
        return head + "(" + String.join(", ", types) + ")" + tail;
    }

    private static void nothingElseShows() {
        DUE.promise(0, "rule 1");
        DUE.is(true, Modifier.isFinal(PulseMeadow.class.getModifiers()));
        TreeSet<String> names = new TreeSet<>();
        for (Method m : PulseMeadow.class.getMethods()) {
            names.add(m.getName());
        }
        for (Method m : PulseMeadow.class.getDeclaredMethods()) {
            boolean hidden = Modifier.isPrivate(m.getModifiers());
            DUE.is(true, hidden || Modifier.isPublic(m.getModifiers()));
            DUE.is(false, hidden && names.contains(m.getName()));
        }
        for (Class<?> inner : PulseMeadow.class.getDeclaredClasses()) {
            DUE.is(true, Modifier.isStatic(inner.getModifiers()));
            for (Method m : inner.getDeclaredMethods()) {
                DUE.is(false, names.contains(m.getName()));
            }
        }
    }

    private static void fields() {
        DUE.promise(0, "rules 5 and 11");
        List<Class<?>> classes = new ArrayList<>(Arrays.asList(PulseMeadow.class.getDeclaredClasses()));
        classes.add(PulseMeadow.class);
        List<String> kinds = List.of("int", "long", "boolean", "char", "String");
        for (Class<?> c : classes) {
            int own = 0;
            for (Field f : c.getDeclaredFields()) {
                DUE.is(true, Modifier.isPrivate(f.getModifiers()));
                if (Modifier.isStatic(f.getModifiers())) {
                    DUE.is(true, Modifier.isFinal(f.getModifiers()));
                    DUE.is(true, kinds.contains(f.getType().getSimpleName()));
                } else {
                    own++;
                }
            }
            DUE.is(true, own <= 20);
        }
    }

    private static void sizes() {
        DUE.promise(0, "rule 11");
        List<Class<?>> classes = new ArrayList<>(Arrays.asList(PulseMeadow.class.getDeclaredClasses()));
        classes.add(PulseMeadow.class);
        DUE.is(true, classes.size() <= 12);
        for (Class<?> c : classes) {
            for (Method m : c.getDeclaredMethods()) {
                DUE.is(true, m.getParameterCount() <= 7);
            }
        }
    }

    private static String text() throws Exception {
        return Files.readString(Path.of("src/main/java/PulseMeadow.java"));
    }

    /** The text without comments, and without what stands in quotes. */
    private static String bare(String text) {
        return text.replaceAll("(?s)/\\*.*?\\*/", "").replaceAll("//[^\n]*", "").replaceAll("\"[^\"]*\"", "\"\"");
    }

    private static void makesNothingLater() throws Exception {
        DUE.promise(0, "rule 12: what is made is made with the meadow, exceptions aside");
        for (String line : bare(text()).split("\n")) {
            boolean field = line.matches(" +private final .* = new .*;");
            boolean thrown = line.matches(" +throw new \\w+\\(\"\"\\);");
            if (Pattern.compile("\\bnew\\b|\\bclone\\b|\\bArrays\\b").matcher(line).find() && !field && !thrown) {
                DUE.is("made in a field or thrown", line);
            }
        }
    }

    private static void words() throws Exception {
        DUE.promise(0, "rules 3 to 13");
        String text = text();
        String bare = bare(text);
        String[] never = {"->", "::", "\\bcatch\\b", "\\btry\\b", "\\bfinally\\b", "\\bassert\\b", "\\bsynchronized\\b",
            "Exact\\b", "\\bnew int\\[[^\\]]*\\]\\[", "\\bFloat\\.", "\\bDouble\\.", "\"\" *\\+", "\\+ *\"\"", "\\bObject\\b"};
        for (String word : never) {
            DUE.is("none of " + word, (Pattern.compile(word).matcher(bare).find() ? "one of " : "none of ") + word);
        }
        DUE.is(true, text.chars().allMatch(c -> c < 128));
        for (String line : text.split("\n")) {
            DUE.is(true, !line.startsWith("import") || line.equals("import java.util.NoSuchElementException;"));
        }
    }
}
