import java.lang.reflect.Constructor;
import java.lang.reflect.Field;
import java.lang.reflect.Method;
import java.lang.reflect.Modifier;
import java.nio.file.Files;
import java.nio.file.Path;
import java.util.ArrayList;
import java.util.Arrays;
import java.util.List;
import java.util.Set;
import java.util.TreeSet;
import java.util.regex.Matcher;
import java.util.regex.Pattern;

/** The public face, and the rules of LANGUAGE.md that can be seen without reading closely. */
public final class FaceTest {
    private static final String[] FACE = {"made(int)", "face(boolean)", "bears(int,int)", "constant(int,int,int)",
        "act(int,int,int,int,int,int)", "run(int,int)", "cause()", "count(int)", "event(int,int)", "state(int)",
        "field(int,int)", "row(int)", "item(int,int)", "again()", "may(int,int)", "ahead(int,int)"};
    private static final String[] FORBIDDEN = {"\\bthrow\\b", "\\btry\\b", "\\bcatch\\b", "\\bsynchronized\\b",
        "\\bassert\\b", "\\bimport\\b", "\\bpackage\\b", "->", "::", "Exact\\b", "\\bhashCode\\b", "\\btoString\\b",
        "\\bequals\\b", "\\bnative\\b", "\\bvolatile\\b", "\\bSystem\\b", "\\bThread\\b", "static \\{"};
    /** What stands ahead of a point and a call, where it is a class: of the library only Math. */
    private static final Set<String> CALLED = Set.of("Math", "Kind", "Act");
    private static final int MOST_PARAMETERS = 7, MOST_LINES = 60, MOST_CLASSES = 12, MOST_FIELDS = 20;

    public static void main(String[] args) throws Exception {
        constants();
        asInTheDocument();
        members();
        classesInside();
        shapes();
        source();
        Due.end();
    }

    private static void constants() {
        Due.due("NONE", ClassStarts.NONE, -1);
        Due.due("UNKNOWN", ClassStarts.UNKNOWN, -2);
        Due.due("OUTSIDE", ClassStarts.OUTSIDE, -3);
        Due.due("STATE", ClassStarts.STATE, -4);
        Due.due("ROOM", ClassStarts.ROOM, -5);
    }

    /** Each row of the document's face stands in the source, its names too. */
    private static void asInTheDocument() throws Exception {
        Path document = Path.of("../shared/DOC.md");
        if (!Files.isRegularFile(document)) {
            System.out.println("there is no " + document + ": the face is not compared with it");
            return;
        }
        Due.about("The public face: ");
        String source = Files.readString(Path.of("src/main/java/ClassStarts.java"));
        int rows = 0;
        for (String line : Files.readAllLines(document)) {
            if (line.trim().startsWith("public ")) {
                String words = line.trim().replaceFirst("\\);$", ") {");
                Due.due("the source has '" + words + "'", source.contains(words) ? 1 : 0, 1);
                rows++;
            }
        }
        Due.due("rows: the class, its constants, its constructor, its methods", rows, 3 + FACE.length);
    }

    private static void members() {
        Due.about("LANGUAGE.md, rule 1: ");
        TreeSet<String> seen = new TreeSet<>();
        for (Method m : ClassStarts.class.getDeclaredMethods()) {
            if (!Modifier.isPrivate(m.getModifiers())) {
                String types = Arrays.toString(Arrays.stream(m.getParameterTypes()).map(Class::getName).toArray());
                seen.add(m.getName() + "(" + types.substring(1, types.length() - 1).replace(" ", "") + ")");
                Due.due(m + " is public", Modifier.isPublic(m.getModifiers()) ? 1 : 0, 1);
                Due.due(m + " answers an int", m.getReturnType() == int.class ? 1 : 0, 1);
            }
        }
        Due.due("methods " + seen, seen.equals(new TreeSet<>(Arrays.asList(FACE))) ? 1 : 0, 1);
        TreeSet<String> fields = new TreeSet<>();
        for (Field f : ClassStarts.class.getDeclaredFields()) {
            if (!Modifier.isPrivate(f.getModifiers())) {
                fields.add(f.getName());
            }
        }
        Due.due("constants " + fields,
            fields.equals(new TreeSet<>(Arrays.asList("NONE", "UNKNOWN", "OUTSIDE", "STATE", "ROOM"))) ? 1 : 0, 1);
        Constructor<?>[] made = ClassStarts.class.getDeclaredConstructors();
        Due.due("constructors", made.length, 1);
        Due.due("the class is public and final",
            ClassStarts.class.getModifiers() & (Modifier.PUBLIC | Modifier.FINAL), Modifier.PUBLIC | Modifier.FINAL);
        for (Class<?> one : all()) {
            for (Method m : one.getDeclaredMethods()) {
                boolean named = Arrays.stream(FACE).anyMatch(f -> f.startsWith(m.getName() + "("));
                Due.due(m + " bears a name of the face", named && !Modifier.isPublic(m.getModifiers()) ? 1 : 0, 0);
            }
        }
    }

    private static List<Class<?>> all() {
        List<Class<?>> all = new ArrayList<>(Arrays.asList(ClassStarts.class.getDeclaredClasses()));
        all.add(ClassStarts.class);
        return all;
    }

    private static void classesInside() {
        Due.about("LANGUAGE.md, rules 1, 2: ");
        for (Class<?> inside : ClassStarts.class.getDeclaredClasses()) {
            int seen = inside.getModifiers();
            Due.due(inside + " is static", Modifier.isStatic(seen) ? 1 : 0, 1);
            Due.due(inside + " is seen from outside", Modifier.isPublic(seen) || Modifier.isProtected(seen) ? 1 : 0, 0);
            Due.due(inside + " has classes of its own", inside.getDeclaredClasses().length, 0);
        }
    }

    private static void shapes() {
        Due.about("LANGUAGE.md, rules 5, 11: ");
        Due.due("classes, " + all().size(), all().size() <= MOST_CLASSES ? 1 : 0, 1);
        for (Class<?> one : all()) {
            int fields = 0;
            for (Field f : one.getDeclaredFields()) {
                boolean isStatic = Modifier.isStatic(f.getModifiers());
                fields += isStatic ? 0 : 1;
                Due.due(f + " is a constant", isStatic && !Modifier.isFinal(f.getModifiers()) ? 0 : 1, 1);
                Due.due(f + " is an int", isStatic && f.getType() != int.class ? 0 : 1, 1);
            }
            Due.due(one + " has " + fields + " fields", fields <= MOST_FIELDS ? 1 : 0, 1);
            for (Method m : one.getDeclaredMethods()) {
                Due.due(m + " has few parameters", m.getParameterCount() <= MOST_PARAMETERS ? 1 : 0, 1);
            }
        }
    }

    private static void source() throws Exception {
        String text = Files.readString(Path.of("src/main/java/ClassStarts.java"));
        String code = text.replaceAll("(?s)/\\*.*?\\*/", " ").replaceAll("//[^\n]*", " ");
        Due.about("LANGUAGE.md, rules 3, 4, 6, 13: ");
        for (String words : FORBIDDEN) {
            Due.due("the source has '" + words + "'", Pattern.compile(words).matcher(code).find() ? 1 : 0, 0);
        }
        Matcher called = Pattern.compile("\\b([A-Z]\\w*)\\.\\w+\\(").matcher(code);
        while (called.find()) {
            Due.due("the source calls " + called.group(), CALLED.contains(called.group(1)) ? 1 : 0, 1);
        }
        for (int i = 0; i < text.length(); i++) {
            if (text.charAt(i) > 126) {
                Due.due("the source has a character at " + i + " beyond ASCII", 1, 0);
            }
        }
        Due.about("LANGUAGE.md, rule 11: ");
        methodsAreShort(text.split("\n"));
    }

    /** A method's lines are those from its own to the next brace at the same depth. */
    private static void methodsAreShort(String[] lines) {
        for (int i = 0; i < lines.length; i++) {
            if (lines[i].matches(" {4,8}[a-z][^=;]*\\) \\{") && !lines[i].matches(" *(for|if|while|switch) .*")) {
                String end = lines[i].replaceFirst("\\S.*", "}");
                int last = i;
                while (last < lines.length && !lines[last].equals(end)) {
                    last++;
                }
                Due.due(lines[i].trim() + " has " + (last - i) + " lines", last - i < MOST_LINES ? 1 : 0, 1);
            }
        }
    }
}
