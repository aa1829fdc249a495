import java.io.File;
import java.io.IOException;
import java.net.URL;
import java.net.URLClassLoader;
import java.nio.file.Files;
import java.nio.file.Path;
import java.util.ArrayList;
import java.util.List;
import java.util.TreeSet;
import java.util.regex.Matcher;
import java.util.regex.Pattern;
import javax.tools.ToolProvider;

/** README.md: its example answers what stands behind each call, and the tests that it names are those that there are. */
public final class ReadmeTest {
    private static final Pattern ANSWERED = Pattern.compile("(?:int (\\w+) = )?(.*?);\\s*// (-?\\d+)(?::.*)?");
    private static final Pattern PLAIN = Pattern.compile("TeaBlends \\w+ = new TeaBlends\\(\\);");
    private static final String[] FACE = {"set", "leaf", "row", "buy", "bound", "share", "choose", "mix", "pass", "of",
        "blend", "why", "count", "taste", "mean", "cheapest", "swap", "looser", "keepsFor", "mostGrams", "put", "wipe",
        "fault", "carryOut", "undo", "save", "restore"};
    private static final Due DUE = new Due();

    /** It is run in the project's folder, as .ci/run does. */
    public static void main(String[] args) throws IOException, ReflectiveOperationException {
        List<String> readme = Files.readAllLines(Path.of("README.md"));
        example(readme);
        testsThatThereAre(readme);
        callsNamed(String.join("\n", readme));
        DUE.end();
    }

    /** The first block of Java, line by line. */
    private static List<String> linesOfExample(List<String> readme) {
        int start = readme.indexOf("```java") + 1;
        DUE.due("README.md has an example", start > 0 ? 1 : 0, 1);
        List<String> rest = readme.subList(start, readme.size());
        return rest.subList(0, Math.max(0, rest.indexOf("```")));
    }

    private static void example(List<String> readme) throws IOException, ReflectiveOperationException {
        List<String> calls = new ArrayList<>();
        List<Integer> wanted = new ArrayList<>();
        StringBuilder body = new StringBuilder();
        for (String line : linesOfExample(readme)) {
            Matcher answered = ANSWERED.matcher(line);
            if (!answered.matches()) {
                DUE.due(line + " tells no answer", PLAIN.matcher(line).matches() ? 1 : 0, 1);
                body.append(line).append('\n');
                continue;
            }
            String answer = "answers[" + calls.size() + "]";
            body.append(answer).append(" = ").append(answered.group(2)).append(";\n");
            if (answered.group(1) != null) {
                body.append("int ").append(answered.group(1)).append(" = (int) ").append(answer).append(";\n");
            }
            calls.add("README.md: " + answered.group(2));
            wanted.add(Integer.parseInt(answered.group(3)));
        }
        long[] answers = run(body.toString(), calls.size());
        for (int i = 0; i < calls.size(); i++) {
            DUE.due(calls.get(i), answers[i], wanted.get(i));
        }
    }

    private static long[] run(String body, int calls) throws IOException, ReflectiveOperationException {
        Path folder = Files.createTempDirectory("readme");
        Path source = folder.resolve("Example.java");
        Path program = folder.resolve("Example.class");
        try {
            Files.writeString(source, "public final class Example { public static long[] run() {\n"
                + "long[] answers = new long[" + calls + "];\n" + body + "return answers; } }\n");
            String path = System.getProperty("java.class.path");
            int failed = ToolProvider.getSystemJavaCompiler().run(null, null, null, "-cp", path, "-d",
                folder.toString(), source.toString());
            DUE.due("the example compiles, failures", failed, 0);
            if (failed != 0) {
                return new long[calls];
            }
            try (URLClassLoader loader = new URLClassLoader(new URL[] {folder.toUri().toURL()})) {
                return (long[]) loader.loadClass("Example").getMethod("run").invoke(null);
            }
        } finally {
            Files.deleteIfExists(program);
            Files.deleteIfExists(source);
            Files.deleteIfExists(folder);
        }
    }

    private static void testsThatThereAre(List<String> readme) throws IOException {
        TreeSet<String> named = new TreeSet<>();
        for (String file : new String[] {"README.md", "NOTES.md"}) {
            Matcher name = Pattern.compile("\\b[A-Z]\\w*Test\\b").matcher(Files.readString(Path.of(file)));
            while (name.find()) {
                named.add(name.group());
            }
        }
        for (String name : named) {
            DUE.due("there is a test " + name, new File("src/test/java/" + name + ".java").isFile() ? 1 : 0, 1);
        }
        String text = String.join("\n", readme);
        for (String file : new File("src/test/java").list()) {
            String name = file.replace(".java", "");
            if (name.endsWith("Test")) {
                DUE.due("README.md tells of " + name, text.contains("`" + name + "`") ? 1 : 0, 1);
            }
        }
    }

    private static void callsNamed(String readme) {
        for (String call : FACE) {
            DUE.due("README.md names " + call, readme.contains("`" + call + "`") ? 1 : 0, 1);
        }
    }
}
