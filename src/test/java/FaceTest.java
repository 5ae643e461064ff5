import java.lang.reflect.Constructor;
import java.lang.reflect.Field;
import java.lang.reflect.Method;
import java.lang.reflect.Modifier;
import java.nio.file.Files;
import java.nio.file.Path;
import java.util.Arrays;
import java.util.TreeSet;

/** The public face, and the rules of LANGUAGE.md that can be seen without reading closely. */
public final class FaceTest {
    private static final String[] FACE = {"made(int)", "face(boolean)", "bears(int,int)", "constant(int,int,int)",
        "act(int,int,int,int,int,int)", "run(int,int)", "cause()", "count(int)", "event(int,int)", "state(int)",
        "field(int,int)", "row(int)", "item(int,int)", "again()", "may(int,int)", "ahead(int,int)"};
    private static final String[] FORBIDDEN = {"throw", "try", "catch", "synchronized", "assert", "import", "package",
        "->", "::", "Exact", "hashCode", "toString", "native", "volatile"};

    public static void main(String[] args) throws Exception {
        constants();
        members();
        source();
        Due.end();
    }

    private static void constants() {
        Due.due("NONE", ClassStarts.NONE, -1);
        Due.due("UNKNOWN", ClassStarts.UNKNOWN, -2);
        Due.due("OUTSIDE", ClassStarts.OUTSIDE, -3);
        Due.due("STATE", ClassStarts.STATE, -4);
        Due.due("ROOM", ClassStarts.ROOM, -5);
    }

    private static void members() {
        TreeSet<String> seen = new TreeSet<>();
        for (Method m : ClassStarts.class.getDeclaredMethods()) {
            if (!Modifier.isPrivate(m.getModifiers())) {
                String types = Arrays.toString(Arrays.stream(m.getParameterTypes()).map(Class::getName).toArray());
                seen.add(m.getName() + "(" + types.substring(1, types.length() - 1).replace(" ", "") + ")");
                Due.due(m + " is public", Modifier.isPublic(m.getModifiers()) ? 1 : 0, 1);
                Due.due(m + " answers an int", m.getReturnType() == int.class ? 1 : 0, 1);
            }
        }
        Due.due("methods " + seen, seen.equals(new TreeSet<>(Arrays.asList(FACE))) ? 1 : 0, 1);
        TreeSet<String> fields = new TreeSet<>();
        for (Field f : ClassStarts.class.getDeclaredFields()) {
            if (!Modifier.isPrivate(f.getModifiers())) {
                fields.add(f.getName());
            }
        }
        Due.due("constants " + fields,
            fields.equals(new TreeSet<>(Arrays.asList("NONE", "UNKNOWN", "OUTSIDE", "STATE", "ROOM"))) ? 1 : 0, 1);
        Constructor<?>[] made = ClassStarts.class.getDeclaredConstructors();
        Due.due("constructors", made.length, 1);
        Due.due("the class is public and final",
            ClassStarts.class.getModifiers() & (Modifier.PUBLIC | Modifier.FINAL), Modifier.PUBLIC | Modifier.FINAL);
        for (Class<?> inside : ClassStarts.class.getDeclaredClasses()) {
            Due.due(inside + " is static", Modifier.isStatic(inside.getModifiers()) ? 1 : 0, 1);
        }
    }

    private static void source() throws Exception {
        String text = Files.readString(Path.of("src/main/java/ClassStarts.java"));
        String code = text.replaceAll("(?s)/\\*.*?\\*/", " ").replaceAll("//[^\n]*", " ");
        for (String word : FORBIDDEN) {
            boolean plain = Character.isLetter(word.charAt(0));
            String pattern = plain ? "(?s).*\\b" + word + "\\b.*" : "(?s).*" + word + ".*";
            Due.due("the source has '" + word + "'", code.matches(pattern) ? 1 : 0, 0);
        }
        for (int i = 0; i < text.length(); i++) {
            if (text.charAt(i) > 126) {
                Due.due("the source has a character at " + i + " beyond ASCII", 1, 0);
            }
        }
    }
}
