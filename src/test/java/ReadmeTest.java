import java.io.IOException;
import java.lang.reflect.Method;
import java.lang.reflect.Modifier;
import java.net.URL;
import java.net.URLClassLoader;
import java.nio.file.Files;
import java.nio.file.Path;
import java.util.ArrayList;
import java.util.List;
import java.util.regex.Matcher;
import java.util.regex.Pattern;
import javax.tools.ToolProvider;

/**
 * README.md tells the truth: its table names every call of the face, and its examples, compiled as they stand, give
 * the answers that are written behind them.
 */
public final class ReadmeTest {
    /** A line of an example: perhaps a new variable, the call, and perhaps what it answers. */
    private static final Pattern LINE =
            Pattern.compile("(?:(?:int|PromiseDesk) (\\w+) = )?(.*?);(?:\\s*// (-?\\d+|true|false)\\b.*)?");

    public static void main(String[] args) throws Exception {
        String readme = Files.readString(Path.of("README.md"));
        for (Method method : PromiseDesk.class.getDeclaredMethods()) {
            if (Modifier.isPublic(method.getModifiers())) {
                Check.due("README.md names " + method.getName(), true, readme.contains("| `" + method.getName() + "("));
            }
        }
        List<List<String>> examples = examplesOf(readme);
        Check.due("README.md has examples", true, !examples.isEmpty());
        run(programOf(examples));
        Check.end();
    }

    /** The examples come from a class loader of their own, to which Check is not visible. */
    public static void due(String what, long want, long got) {
        Check.due(what, want, got);
    }

    public static void due(String what, boolean want, boolean got) {
        Check.due(what, want, got);
    }

    private static List<List<String>> examplesOf(String readme) {
        List<List<String>> examples = new ArrayList<>();
        boolean inside = false;
        for (String line : readme.split("\n")) {
            if (line.startsWith("```")) {
                inside = line.equals("```java");
                if (inside) {
                    examples.add(new ArrayList<>());
                }
            } else if (inside) {
                examples.get(examples.size() - 1).add(line);
            }
        }
        return examples;
    }

    private static String programOf(List<List<String>> examples) {
        StringBuilder program = new StringBuilder("public final class Examples {\n  public static void run() {\n");
        for (List<String> example : examples) {
            program.append("  {\n");
            for (String line : example) {
                program.append(statementOf(line)).append('\n');
            }
            program.append("  }\n");
        }
        return program.append("  }\n}\n").toString();
    }

    private static String statementOf(String line) {
        Matcher found = LINE.matcher(line);
        if (!found.matches()) {
            Check.tell("README.md has a line that is no call: " + line);
            return "";
        }
        String variable = found.group(1);
        String answer = found.group(3);
        if (answer == null) {
            return line;
        }
        String name = "\"README.md: " + found.group(2) + "\"";
        if (variable == null) {
            return "ReadmeTest.due(" + name + ", " + answer + ", " + found.group(2) + ");";
        }
        return line.substring(0, line.indexOf(';') + 1) + " ReadmeTest.due(" + name + ", " + answer + ", " + variable + ");";
    }

    private static void run(String program) throws IOException, ReflectiveOperationException {
        Path folder = Files.createTempDirectory("readme");
        Path source = folder.resolve("Examples.java");
        Files.writeString(source, program);
        String[] options = {"-cp", System.getProperty("java.class.path"), "-d", folder.toString(), source.toString()};
        Check.due("the examples compile", 0, ToolProvider.getSystemJavaCompiler().run(null, null, null, options));
        try (URLClassLoader loader = new URLClassLoader(new URL[] {folder.toUri().toURL()})) {
            loader.loadClass("Examples").getMethod("run").invoke(null);
        } finally {
            Files.deleteIfExists(source);
            Files.deleteIfExists(folder.resolve("Examples.class"));
            Files.deleteIfExists(folder);
        }
    }
}
