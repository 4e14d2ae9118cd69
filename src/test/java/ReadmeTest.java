import java.io.IOException;
import java.lang.reflect.InvocationTargetException;
import java.net.URL;
import java.net.URLClassLoader;
import java.nio.file.Files;
import java.nio.file.Path;
import java.util.ArrayList;
import java.util.List;
import java.util.regex.Matcher;
import java.util.regex.Pattern;
import javax.tools.ToolProvider;

/** README.md's example is compiled and run as it stands there; what a remark '-> answer' tells must be answered. */
public final class ReadmeTest {
    private static final Path README = Path.of("README.md");
    private static final String[] STEPS = {"new StepCode()", "x.signal(", "x.variable(", "x.add(", "x.process()",
        "x.resume(", "x.acts()", "x.act(", "x.value(", "x.delay("};
    private static final Pattern ANSWERED = Pattern.compile("(?:int (\\w+) = )?(.*);\\s*// -> (.*)");

    public static void main(String[] args) throws IOException, ReflectiveOperationException {
        Kit kit = new Kit("ReadmeTest");
        String text = Files.readString(README);
        List<String> lines = example(text);
        inOrder(kit, lines);
        kit.same("how to run the tests", text.contains("\nbash .ci/run\n") ? 1 : 0, 1);
        for (Object[] answer : answers(kit, lines)) {
            kit.same((String) answer[0], (Long) answer[1], (Long) answer[2]);
        }
        kit.end();
    }

    /** The lines of all blocks of Java. */
    private static List<String> example(String text) {
        List<String> lines = new ArrayList<>();
        boolean inside = false;
        for (String line : text.split("\n")) {
            if (line.startsWith("```")) {
                inside = line.equals("```java");
            } else if (inside) {
                lines.add(line.strip());
            }
        }
        return lines;
    }

    /** It tells how to make an object, declare, build, make a process, resume, and read, one behind the other. */
    private static void inOrder(Kit kit, List<String> lines) {
        String all = String.join("\n", lines);
        int at = 0;
        for (String step : STEPS) {
            int found = all.indexOf(step);
            kit.same(step + " has its place", found >= at ? 1 : 0, 1);
            at = Math.max(at, found);
        }
    }

    private static String source(List<String> lines) {
        StringBuilder text = new StringBuilder("public final class ReadmeExample {\n"
                + "public static java.util.List<Object[]> run() {\n"
                + "java.util.List<Object[]> answers = new java.util.ArrayList<>();\n");
        for (String line : lines) {
            Matcher answered = ANSWERED.matcher(line);
            if (!answered.matches()) {
                text.append(line).append('\n');
                continue;
            }
            String name = answered.group(1);
            if (name != null) {
                text.append("int ").append(name).append(" = ").append(answered.group(2)).append(";\n");
            }
            text.append("answers.add(new Object[] {\"").append(answered.group(2)).append("\", (long) (")
                    .append(name == null ? answered.group(2) : name).append("), (long) (").append(answered.group(3))
                    .append(")});\n");
        }
        return text.append("return answers;\n}\n}\n").toString();
    }

    /** Each: the call, what it answered, and what README.md tells. */
    @SuppressWarnings("unchecked")
    private static List<Object[]> answers(Kit kit, List<String> lines)
            throws IOException, ReflectiveOperationException {
        Path place = Files.createTempDirectory("readme");
        Path file = place.resolve("ReadmeExample.java");
        try {
            Files.writeString(file, source(lines));
            int result = ToolProvider.getSystemJavaCompiler().run(null, null, null, "-d", place.toString(), "-cp",
                    System.getProperty("java.class.path"), file.toString());
            kit.same("its Java is compiled", result, 0);
            if (result != 0) {
                return List.of();
            }
            try (URLClassLoader loader = new URLClassLoader(new URL[] {place.toUri().toURL()})) {
                return (List<Object[]>) loader.loadClass("ReadmeExample").getMethod("run").invoke(null);
            }
        } catch (InvocationTargetException e) {
            kit.same("its Java throws " + e.getCause(), 1, 0);
            return List.of();
        } finally {
            Files.deleteIfExists(place.resolve("ReadmeExample.class"));
            Files.deleteIfExists(file);
            Files.delete(place);
        }
    }
}
