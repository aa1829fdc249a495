import java.io.IOException;
import java.nio.file.Files;
import java.nio.file.Path;
import java.util.List;

/** The rules of LANGUAGE.md that can be seen from the lines of the class, as far as plain words show them. */
public final class LanguageTest {
    private static final String[] RULED_OUT = {"throw ", "try ", "catch ", "finally ", "synchronized", "assert ",
        "static {", "->", "::", "Float.", "Double.", "Exact(", "Integer.", "Long.", "System.out", "java.", "hashCode",
        "equals(", "toString", "instanceof", "protected ", "volatile ", " + \"", "\" + "};
    private static final int LONGEST_METHOD = 60;
    private static final int MOST_CLASSES = 12;
    private static final int FACE_METHODS = 27;
    private static final Due DUE = new Due();

    /** It is run in the project's folder, as .ci/run does. */
    public static void main(String[] args) throws IOException {
        List<String> lines = Files.readAllLines(Path.of("src/main/java/TeaBlends.java"));
        words(lines);
        lengths(lines);
        DUE.end();
    }

    private static void words(List<String> lines) {
        int classes = 0;
        for (int i = 0; i < lines.size(); i++) {
            String line = lines.get(i);
            if (isComment(line)) {
                continue;
            }
            if (line.startsWith("import ")) {
                DUE.due(line, line.equals("import java.util.Arrays;") ? 1 : 0, 1);
                continue;
            }
            for (String word : RULED_OUT) {
                DUE.due("line " + (i + 1) + " has " + word, line.contains(word) ? 1 : 0, 0);
            }
            classes += line.contains(" class ") ? 1 : 0;
        }
        DUE.due("classes: " + classes, classes <= MOST_CLASSES ? 1 : 0, 1);
    }

    private static boolean isComment(String line) {
        return line.trim().startsWith("*") || line.trim().startsWith("/*") || line.trim().startsWith("//");
    }

    /** A method begins with its head in one line and ends with a brace as far in as its head. */
    private static void lengths(List<String> lines) {
        int methods = 0;
        for (int i = 0; i < lines.size(); i++) {
            String line = lines.get(i);
            boolean isHead = line.matches(" {4}( {4})?[\\w\\[\\] ]+\\(.*\\) \\{")
                && !line.trim().matches("(if|for|while|switch) .*");
            if (isHead) {
                String end = line.substring(0, line.indexOf(line.trim())) + "}";
                int length = lines.subList(i, lines.size()).indexOf(end) + 1;
                DUE.due("the lines of" + line, length > 1 && length <= LONGEST_METHOD ? 1 : 0, 1);
                methods++;
            }
        }
        DUE.due("methods were found", methods >= FACE_METHODS ? 1 : 0, 1);
    }
}
