import java.io.IOException;
import java.lang.reflect.InvocationTargetException;
import java.lang.reflect.Method;
import java.nio.file.Files;
import java.nio.file.Path;
import java.util.HashMap;
import java.util.List;
import java.util.Map;
import java.util.TreeSet;
import java.util.regex.Matcher;
import java.util.regex.Pattern;
import java.util.stream.Collectors;
import java.util.stream.Stream;

/** What README.md says is so: each call of its examples answers what is told, and what it names is there. */
public final class ReadmeTest {
    private static final String NEW_OBJECT = "ClassStarts x = new ClassStarts();";
    /** A call, and the answer that stands first behind it. */
    private static final Pattern CALL =
        Pattern.compile("(?:int (\\w+) = )?x\\.(\\w+)\\(([^()]*)\\); +// (-?\\d+|[A-Z]+)\\b.*");
    private static final Map<String, Integer> CONSTANTS = Map.of("NONE", ClassStarts.NONE, "UNKNOWN",
        ClassStarts.UNKNOWN, "OUTSIDE", ClassStarts.OUTSIDE, "STATE", ClassStarts.STATE, "ROOM", ClassStarts.ROOM);

    /** Of the example that is read: its object, and the numbers that have names. */
    private static ClassStarts object = null;
    private static final Map<String, Integer> NAMES = new HashMap<>();

    public static void main(String[] args) throws Exception {
        List<String> lines = Files.readAllLines(Path.of("README.md"));
        examples(lines);
        calls(lines);
        tests(lines);
        classesInside(lines);
        Due.due(".ci/run can be run", Files.isExecutable(Path.of(".ci/run")) ? 1 : 0, 1);
        Due.end();
    }

    private static void examples(List<String> lines) throws Exception {
        boolean inside = false;
        int answers = 0;
        for (int i = 0; i < lines.size(); i++) {
            Due.about("README.md, line " + (i + 1) + ": ");
            String line = lines.get(i).trim();
            if (line.startsWith("```")) {
                inside = line.equals("```java");
                object = null;
            } else if (inside && line.equals(NEW_OBJECT)) {
                object = new ClassStarts();
                NAMES.clear();
            } else if (inside) {
                example(line);
                answers++;
            }
        }
        Due.about("README.md: ");
        Due.due("it has examples", answers > 0 ? 1 : 0, 1);
    }

    private static void example(String line) throws Exception {
        Matcher call = CALL.matcher(line);
        if (object == null || !call.matches()) {
            Due.due("'" + line + "' is a call that tells its answer, on an object made above it", 0, 1);
            return;
        }
        int answer = answer(call.group(2), call.group(3).isEmpty() ? new String[0] : call.group(3).split(", "));
        Due.due(call.group(2) + "(" + call.group(3) + ")", answer, number(call.group(4)));
        if (call.group(1) != null) {
            NAMES.put(call.group(1), answer);
        }
    }

    private static int answer(String name, String[] words) throws Exception {
        for (Method method : ClassStarts.class.getMethods()) {
            if (method.getName().equals(name) && method.getParameterCount() == words.length) {
                Object[] values = new Object[words.length];
                for (int i = 0; i < words.length; i++) {
                    boolean isNumber = method.getParameterTypes()[i] == int.class;
                    values[i] = isNumber ? (Object) number(words[i]) : (Object) Boolean.valueOf(words[i]);
                }
                return invoke(method, values);
            }
        }
        throw new IllegalArgumentException("README.md calls " + name + " of " + words.length + " numbers");
    }

    private static int invoke(Method method, Object[] values) throws IllegalAccessException {
        try {
            return (Integer) method.invoke(object, values);
        } catch (InvocationTargetException thrown) {
            throw new IllegalStateException("README.md says that no call throws", thrown.getCause());
        }
    }

    private static int number(String word) {
        String name = word.replace("ClassStarts.", "");
        Integer known = CONSTANTS.getOrDefault(name, NAMES.get(name));
        return known != null ? known : Integer.parseInt(name);
    }

    /** The first words of the rows of its tables, where they are code. */
    private static TreeSet<String> rows(List<String> lines, String form) {
        return lines.stream().map(Pattern.compile("\\| `(" + form + ")` \\|.*")::matcher).filter(Matcher::matches)
            .map(row -> row.group(1)).collect(Collectors.toCollection(TreeSet::new));
    }

    private static void dueSame(String what, TreeSet<String> told, TreeSet<String> there) {
        Due.due(what + " told: " + told + ", there: " + there, told.equals(there) ? 1 : 0, 1);
    }

    private static void calls(List<String> lines) throws IOException {
        Due.about("README.md, calls: ");
        Matcher face = Pattern.compile("public int (\\w+)\\((.*)\\) \\{")
            .matcher(Files.readString(Path.of("src/main/java/ClassStarts.java")));
        TreeSet<String> there = new TreeSet<>();
        while (face.find()) {
            there.add(face.group(1) + "(" + face.group(2).replaceAll("(int|boolean) ", "") + ")");
        }
        dueSame("the calls", rows(lines, "\\w+\\([^)]*\\)"), there);
    }

    private static void tests(List<String> lines) throws IOException {
        Due.about("README.md, tests: ");
        try (Stream<Path> files = Files.list(Path.of("src/test/java"))) {
            dueSame("the tests", rows(lines, "\\w+Test"), files.map(file -> file.getFileName().toString())
                .filter(name -> name.endsWith("Test.java")).map(name -> name.replace(".java", ""))
                .collect(Collectors.toCollection(TreeSet::new)));
        }
    }

    private static void classesInside(List<String> lines) {
        Due.about("README.md, inside: ");
        String text = String.join("\n", lines);
        String inside = text.substring(text.indexOf("## Inside"), text.indexOf("## Tests"));
        for (Class<?> one : ClassStarts.class.getDeclaredClasses()) {
            Due.due("`" + one.getSimpleName() + "` is told", inside.contains("`" + one.getSimpleName() + "`") ? 1 : 0, 1);
        }
    }
}
