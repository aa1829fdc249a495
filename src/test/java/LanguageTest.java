import java.io.IOException;
import java.lang.reflect.Field;
import java.lang.reflect.Method;
import java.lang.reflect.Modifier;
import java.nio.file.Files;
import java.nio.file.Path;
import java.util.ArrayList;
import java.util.List;
import java.util.Set;

/** The rules of LANGUAGE.md that can be seen from the lines and the members of the class, as far as they show there. */
public final class LanguageTest {
    private static final String[] RULED_OUT = {"throw ", "try ", "catch ", "finally ", "synchronized", "assert ",
        "static {", "->", "::", "Float.", "Double.", "Exact(", "Integer.", "Long.", "System.out", "java.", "hashCode",
        "equals(", "toString", "instanceof", "protected ", "volatile ", " + \"", "\" + "};
    private static final int LONGEST_METHOD = 60;
    private static final int MOST_CLASSES = 12;
    private static final int MOST_FIELDS = 20;
    private static final int MOST_PARAMETERS = 7;
    private static final int LAST_SIGN = 126;
    private static final int FACE_METHODS = 27;
    private static final Set<Class<?>> SHARED_TYPES = Set.of(int.class, long.class, boolean.class, char.class,
        String.class, int[].class, long[].class, char[].class, byte[].class);
    private static final Due DUE = new Due();

    /** It is run in the project's folder, as .ci/run does. */
    public static void main(String[] args) throws IOException {
        List<String> lines = Files.readAllLines(Path.of("src/main/java/TeaBlends.java"));
        words(lines);
        signs(lines);
        lengths(lines);
        for (Class<?> one : classes()) {
            fields(one);
            parameters(one);
        }
        DUE.end();
    }

    private static void words(List<String> lines) {
        int classes = 0;
        for (int i = 0; i < lines.size(); i++) {
            String line = lines.get(i);
            if (isComment(line)) {
                continue;
            }
            if (line.startsWith("import ")) {
                DUE.due(line, line.equals("import java.util.Arrays;") ? 1 : 0, 1);
                continue;
            }
            for (String word : RULED_OUT) {
                DUE.due("line " + (i + 1) + " has " + word, line.contains(word) ? 1 : 0, 0);
            }
            classes += line.contains(" class ") ? 1 : 0;
        }
        DUE.due("classes: " + classes, classes <= MOST_CLASSES ? 1 : 0, 1);
    }

    private static void signs(List<String> lines) {
        int others = 0;
        for (String line : lines) {
            others += (int) line.chars().filter(sign -> sign < ' ' || sign > LAST_SIGN).count();
        }
        DUE.due("signs that are not plain", others, 0);
    }

    private static List<Class<?>> classes() {
        List<Class<?>> classes = new ArrayList<>(List.of(TeaBlends.class.getDeclaredClasses()));
        classes.add(TeaBlends.class);
        return classes;
    }

    private static void fields(Class<?> one) {
        int own = 0;
        for (Field field : one.getDeclaredFields()) {
            if (Modifier.isStatic(field.getModifiers())) {
                DUE.due(field + " is final", Modifier.isFinal(field.getModifiers()) ? 1 : 0, 1);
                DUE.due(field + " may be static", SHARED_TYPES.contains(field.getType()) ? 1 : 0, 1);
            } else {
                DUE.due(field + " has a type that may be", isRightType(field.getType()) ? 1 : 0, 1);
                own++;
            }
        }
        DUE.due(one + " has fields: " + own, own <= MOST_FIELDS ? 1 : 0, 1);
    }

    /** Of two dimensions are arrays of numbers alone. */
    private static boolean isRightType(Class<?> type) {
        Class<?> part = type.isArray() ? type.getComponentType() : type;
        if (part.isArray()) {
            return part.getComponentType().isPrimitive();
        }
        return part.isPrimitive() || part == String.class || classes().contains(part);
    }

    private static void parameters(Class<?> one) {
        for (Method method : one.getDeclaredMethods()) {
            DUE.due(method + " has parameters", method.getParameterCount() <= MOST_PARAMETERS ? 1 : 0, 1);
        }
    }

    private static boolean isComment(String line) {
        return line.trim().startsWith("*") || line.trim().startsWith("/*") || line.trim().startsWith("//");
    }

    /** A method begins with its head in one line and ends with a brace as far in as its head. */
    private static void lengths(List<String> lines) {
        int methods = 0;
        for (int i = 0; i < lines.size(); i++) {
            String line = lines.get(i);
            boolean isHead = line.matches(" {4}( {4})?[\\w\\[\\] ]+\\(.*\\) \\{")
                && !line.trim().matches("(if|for|while|switch) .*");
            if (isHead) {
                String end = line.substring(0, line.indexOf(line.trim())) + "}";
                int length = lines.subList(i, lines.size()).indexOf(end) + 1;
                DUE.due("the lines of" + line, length > 1 && length <= LONGEST_METHOD ? 1 : 0, 1);
                methods++;
            }
        }
        DUE.due("methods were found", methods >= FACE_METHODS ? 1 : 0, 1);
    }
}
