import java.lang.reflect.Method;
import java.lang.reflect.Modifier;
import java.nio.file.Files;
import java.nio.file.Path;
import java.util.ArrayList;
import java.util.Arrays;
import java.util.HashMap;
import java.util.List;
import java.util.Map;
import java.util.Set;
import java.util.TreeSet;
import java.util.regex.Matcher;
import java.util.regex.Pattern;

/** What README.md says of the calls: each line of its example is run, and no call is left out. */
public final class ReadmeTests {
    private static final Pattern CALL = Pattern.compile(
            "(?:int (\\w+) = )?x\\.(\\w+)\\((.*)\\);\\s+// (-?\\w+)(?::.*)?");

    private static final Checks CHECKS = new Checks();

    public static void main(String[] args) throws Exception {
        String text = Files.readString(Path.of("README.md"));
        Set<String> shown = runExample(exampleOf(text));
        for (String name : faceNames()) {
            CHECKS.that(name + " is in the example", shown.contains(name));
            CHECKS.that(name + " is in the table", text.contains("`" + name + "("));
        }
        for (String name : List.of("BAD", "NO", "FULL", "OUT")) {
            int value = constant(name);
            CHECKS.that(name + " is told", text.contains("| `" + name + "` (" + value + ") |"));
        }
        CHECKS.that("how to run the tests is told", text.contains("\n    .ci/run\n"));
        for (Path file : filesOf("src/test/java")) {
            String name = file.getFileName().toString().replace(".java", "");
            CHECKS.that(name + " is told of",
                    !name.endsWith("Tests") || text.contains("`" + name + "`"));
        }
        CHECKS.end();
    }

    private static String[] exampleOf(String text) {
        Matcher block = Pattern.compile("(?s)```java\n(.*?)```").matcher(text);
        CHECKS.that("there is an example", block.find());
        return block.group(1).split("\n");
    }

    private static Set<String> runExample(String[] lines) throws Exception {
        CHECKS.that("the example begins with a new object",
                lines[0].equals("ProofSeeker x = new ProofSeeker();"));
        ProofSeeker x = new ProofSeeker();
        Map<String, Integer> names = new HashMap<>();
        Set<String> shown = new TreeSet<>();
        for (int k = 1; k < lines.length; k++) {
            Matcher line = CALL.matcher(lines[k]);
            CHECKS.that("a call with its answer: " + lines[k], line.matches());
            int answer = call(x, line.group(2), valuesOf(line.group(3), names));
            CHECKS.due(lines[k], answer, valueOf(line.group(4), names));
            shown.add(line.group(2));
            if (line.group(1) != null) {
                names.put(line.group(1), answer);
            }
        }
        return shown;
    }

    private static int call(ProofSeeker x, String name, List<Integer> values) throws Exception {
        Class<?>[] types = new Class<?>[values.size()];
        Arrays.fill(types, int.class);
        return (int) ProofSeeker.class.getMethod(name, types).invoke(x, values.toArray());
    }

    private static List<Integer> valuesOf(String arguments, Map<String, Integer> names)
            throws Exception {
        List<Integer> values = new ArrayList<>();
        for (String one : arguments.isEmpty() ? new String[0] : arguments.split(", ")) {
            values.add(valueOf(one, names));
        }
        return values;
    }

    /** Of a name of the example, a constant of the class, or a number. */
    private static int valueOf(String text, Map<String, Integer> names) throws Exception {
        if (names.containsKey(text)) {
            return names.get(text);
        }
        if (text.matches("[A-Z]+")) {
            return constant(text);
        }
        return text.startsWith("0b") ? Integer.parseInt(text.substring(2), 2)
                : Integer.parseInt(text);
    }

    private static int constant(String name) throws Exception {
        return ProofSeeker.class.getField(name).getInt(null);
    }

    private static Set<String> faceNames() {
        Set<String> names = new TreeSet<>();
        for (Method method : ProofSeeker.class.getDeclaredMethods()) {
            if (Modifier.isPublic(method.getModifiers())) {
                names.add(method.getName());
            }
        }
        return names;
    }

    private static List<Path> filesOf(String directory) throws Exception {
        try (var files = Files.list(Path.of(directory))) {
            return files.toList();
        }
    }
}
