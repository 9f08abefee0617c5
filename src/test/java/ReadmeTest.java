import java.lang.reflect.InvocationTargetException;
import java.lang.reflect.Method;
import java.lang.reflect.Modifier;
import java.nio.file.Files;
import java.nio.file.Path;
import java.util.List;
import java.util.TreeMap;
import java.util.TreeSet;
import java.util.regex.Matcher;
import java.util.regex.Pattern;
import java.util.stream.Stream;

/** Makes the calls that README.md shows, and compares their answers with those that stand there. */
public final class ReadmeTest {
    private static final Due DUE = new Due();
    private static final String ANEW = "PulseMeadow meadow = new PulseMeadow();";
    private static final Pattern CALL = Pattern.compile("meadow\\.(\\w+)\\((.*)\\); +// (throws \\w+|[\\w.-]+)(:.*)?");

    public static void main(String[] args) throws Exception {
        List<String> readme = Files.readAllLines(Path.of("README.md"));
        calls(readme);
        testsAreNamed(String.join("\n", readme));
        DUE.end();
    }

    private static void calls(List<String> readme) throws Exception {
        TreeMap<String, Method> face = face();
        TreeSet<String> shown = new TreeSet<>();
        boolean inside = false;
        PulseMeadow meadow = null;
        for (int i = 0; i < readme.size(); i++) {
            String line = readme.get(i);
            DUE.promise(0, "line " + (i + 1) + " of README.md: " + line);
            if (line.startsWith("```")) {
                inside = line.equals("```java");
                meadow = null;
            } else if (inside && line.equals(ANEW)) {
                meadow = new PulseMeadow();
            } else if (inside) {
                Matcher call = CALL.matcher(line);
                if (meadow == null || !call.matches() || !face.containsKey(call.group(1))) {
                    DUE.is("a call on a meadow with its answer", line);
                } else {
                    shown.add(call.group(1));
                    DUE.is(call.group(3), answer(meadow, face.get(call.group(1)), call.group(2)));
                }
            }
        }
        DUE.promise(0, "README.md shows every method");
        DUE.is(face.keySet(), shown);
    }

    private static TreeMap<String, Method> face() {
        TreeMap<String, Method> face = new TreeMap<>();
        for (Method m : PulseMeadow.class.getDeclaredMethods()) {
            if (Modifier.isPublic(m.getModifiers())) {
                face.put(m.getName(), m);
            }
        }
        return face;
    }

    private static String answer(PulseMeadow meadow, Method method, String written) throws Exception {
        String[] parts = written.isEmpty() ? new String[0] : written.split(", ");
        Object[] values = new Object[parts.length];
        for (int i = 0; i < parts.length; i++) {
            if (parts[i].startsWith("'")) {
                values[i] = parts[i].charAt(1);
            } else {
                values[i] = Integer.parseInt(parts[i]);
            }
        }
        try {
            return String.valueOf(method.invoke(meadow, values));
        } catch (InvocationTargetException e) {
            return "throws " + e.getCause().getClass().getSimpleName();
        }
    }

    private static void testsAreNamed(String readme) throws Exception {
        DUE.promise(0, "README.md names every test");
        try (Stream<Path> files = Files.list(Path.of("src/test/java"))) {
            for (Path file : files.toList()) {
                String name = file.getFileName().toString().replace(".java", "");
                if (name.endsWith("Test")) {
                    DUE.is(name, readme.contains("`" + name) ? name : "not named");
                }
            }
        }
    }
}
