import java.io.IOException;
import java.lang.reflect.Method;
import java.lang.reflect.Modifier;
import java.net.URL;
import java.net.URLClassLoader;
import java.nio.file.Files;
import java.nio.file.Path;
import java.util.ArrayList;
import java.util.List;
import java.util.regex.Matcher;
import java.util.regex.Pattern;
import javax.tools.ToolProvider;

/**
 * The example of README.md, compiled and run as it stands there: where a line keeps an answer, its
 * comment begins with the answer that is due. Every call of the face stands in README.md.
 */
public final class ReadmeTest {
    private static final Check check = new Check();
    private static final Pattern ANSWER = Pattern.compile("(?:int|long|boolean) (\\w+) = .*; +// (-?\\w+): .*");
    private static final int LEAST_ANSWERS = 10;

    public static void main(String[] args) throws Exception {
        List<String> readme = Files.readAllLines(Path.of("README.md"));
        everyCallIsTold(readme);
        exampleAnswersAsTold(example(readme));
        check.end();
    }

    private static void everyCallIsTold(List<String> readme) {
        for (Method m : StartTimes.class.getDeclaredMethods()) {
            String row = "| `" + m.getName() + "(";
            boolean open = Modifier.isPublic(m.getModifiers());
            boolean told = readme.stream().anyMatch(line -> line.startsWith(row));
            check.due("a row for " + m.getName(), told, open);
        }
    }

    private static List<String> example(List<String> readme) {
        int from = readme.indexOf("```java") + 1;
        List<String> rest = readme.subList(from, readme.size());
        return rest.subList(0, rest.indexOf("```"));
    }

    private static void exampleAnswersAsTold(List<String> example) throws Exception {
        List<String> names = new ArrayList<>();
        List<String> due = new ArrayList<>();
        for (String line : example) {
            Matcher m = ANSWER.matcher(line);
            if (m.matches()) {
                names.add(m.group(1));
                due.add(m.group(2));
            }
        }
        check.due("answers enough", names.size() >= LEAST_ANSWERS, true);
        String[] got = answersOf(example, names);
        for (int i = 0; i < got.length; i++) {
            check.dueText(names.get(i), got[i], due.get(i));
        }
    }

    private static String[] answersOf(List<String> example, List<String> names) throws Exception {
        Path dir = Files.createTempDirectory("readme");
        Path source = dir.resolve("Example.java");
        Path made = dir.resolve("Example.class");
        try {
            Files.writeString(source, written(example, names));
            int code = ToolProvider.getSystemJavaCompiler().run(null, null, null,
                "-cp", System.getProperty("java.class.path"), "-d", dir.toString(), source.toString());
            check.due("the compiler's exit code", code, 0);
            return code == 0 ? run(dir) : new String[0];
        } finally {
            Files.deleteIfExists(source);
            Files.deleteIfExists(made);
            Files.delete(dir);
        }
    }

    private static String written(List<String> example, List<String> names) {
        return "public class Example {\n    public static String[] answers() {\n"
            + String.join("\n", example)
            + "\n        return new String[] {\"\" + " + String.join(", \"\" + ", names) + "};\n    }\n}\n";
    }

    private static String[] run(Path dir) throws IOException, ReflectiveOperationException {
        try (URLClassLoader loader = new URLClassLoader(new URL[] {dir.toUri().toURL()})) {
            return (String[]) loader.loadClass("Example").getMethod("answers").invoke(null);
        }
    }
}
