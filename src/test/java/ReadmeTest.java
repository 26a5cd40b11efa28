import java.io.IOException;
import java.lang.reflect.Method;
import java.lang.reflect.Modifier;
import java.net.URL;
import java.net.URLClassLoader;
import java.nio.file.Files;
import java.nio.file.Path;
import java.util.ArrayList;
import java.util.List;
import java.util.regex.Matcher;
import java.util.regex.Pattern;
import java.util.stream.Stream;
import javax.tools.ToolProvider;

/**
 * The calls that README.md shows answer what it says that they answer: its Java is made a class, compiled and run. A line
 * "call; // answer: remark" shows a call and its answer, a number, a text or "throws" and an exception.
 */
public final class ReadmeTest {
    private static final Path README = Path.of("README.md");
    private static final Pattern BLOCK = Pattern.compile("(?ms)^```java\\n(.*?)^```$");
    private static final Pattern SHOWN = Pattern.compile("(.+); +// (\"[^\"]*\"|throws \\w+|-?\\w+)(:.*)?");

    private static final String HEAD = """
            public final class Shown {
                public static final java.util.List<String> CALLS = new java.util.ArrayList<>();

                private static void add(String call, Object due, java.util.concurrent.Callable<?> asked) {
                    String answer;
                    try {
                        answer = String.valueOf(asked.call());
                    } catch (Exception e) {
                        answer = "throws " + e.getClass().getSimpleName();
                    }
                    CALLS.add(call);
                    CALLS.add(String.valueOf(due));
                    CALLS.add(answer);
                }

            """;

    public static void main(String[] args) throws Exception {
        String readme = Files.readString(README);
        Path classes = Files.createTempDirectory("readme");
        try {
            dueAnswers(run(sourceOf(blocksOf(readme)), classes));
        } finally {
            remove(classes);
        }
        everyCallIsShown(readme);
        everyTestIsNamed(readme);
        Bench.end();
    }

    private static List<String> blocksOf(String readme) {
        List<String> blocks = new ArrayList<>();
        Matcher matcher = BLOCK.matcher(readme);
        while (matcher.find()) {
            blocks.add(matcher.group(1));
        }
        return blocks;
    }

    /** Blocks of methods are members; each of the others is a run of calls of its own. */
    private static String sourceOf(List<String> blocks) {
        StringBuilder source = new StringBuilder(HEAD);
        StringBuilder runs = new StringBuilder();
        for (String block : blocks) {
            if (block.contains("static ")) {
                source.append(block);
            } else {
                runs.append("{\n");
                block.lines().forEach(line -> runs.append(statementOf(line)).append('\n'));
                runs.append("}\n");
            }
        }
        return source + "public static void run() {\n" + runs + "}\n}\n";
    }

    private static String statementOf(String line) {
        Matcher shown = SHOWN.matcher(line);
        if (!shown.matches()) {
            boolean calls = line.matches("(forge\\.|feed\\(|line\\().*");
            Bench.due("false", String.valueOf(calls), "README.md shows a call without its answer: " + line);
            return line;
        }
        String call = shown.group(1);
        String due = shown.group(2).startsWith("throws ") ? quoted(shown.group(2)) : shown.group(2);
        return "add(" + quoted(call) + ", " + due + ", () -> " + call + ");";
    }

    private static String quoted(String text) {
        return "\"" + text.replace("\\", "\\\\").replace("\"", "\\\"") + "\"";
    }

    /** What each call is, what is due and what it answered, one after the other. */
    private static List<?> run(String source, Path classes) throws Exception {
        Path file = classes.resolve("Shown.java");
        Files.writeString(file, source);
        int failed = ToolProvider.getSystemJavaCompiler().run(null, null, null, "-d", classes.toString(), "-cp",
                System.getProperty("java.class.path"), file.toString());
        Bench.due(0, String.valueOf(failed), "javac of the Java in README.md");
        if (failed != 0) {
            return List.of();
        }
        try (URLClassLoader loader = new URLClassLoader(new URL[] {classes.toUri().toURL()})) {
            Class<?> shown = loader.loadClass("Shown");
            shown.getMethod("run").invoke(null);
            return (List<?>) shown.getField("CALLS").get(null);
        }
    }

    private static void dueAnswers(List<?> calls) {
        for (int i = 0; i + 2 < calls.size(); i += 3) {
            Bench.due((String) calls.get(i + 1), (String) calls.get(i + 2), "README.md: " + calls.get(i));
        }
        Bench.due("true", String.valueOf(calls.size() >= 3 * 20), "README.md shows at least 20 answers");
    }

    private static void everyCallIsShown(String readme) {
        for (Method method : OpForge.class.getDeclaredMethods()) {
            if (Modifier.isPublic(method.getModifiers())) {
                boolean shown = blocksOf(readme).stream().flatMap(String::lines)
                        .anyMatch(line -> line.contains("forge." + method.getName() + "(") && SHOWN.matcher(line).matches());
                Bench.due("true", String.valueOf(shown), "README.md shows an answer of " + method.getName());
            }
        }
    }

    private static void everyTestIsNamed(String readme) throws IOException {
        Matcher named = Pattern.compile("`(\\w+Test)`").matcher(readme);
        while (named.find()) {
            boolean there = Files.exists(Path.of("src", "test", "java", named.group(1) + ".java"));
            Bench.due("true", String.valueOf(there), "README.md names " + named.group(1) + ", which is there");
        }
        try (Stream<Path> files = Files.list(Path.of("src", "test", "java"))) {
            for (Path file : files.toList()) {
                String name = file.getFileName().toString().replace(".java", "");
                Bench.due("true", String.valueOf(readme.contains("`" + name + "`")), "README.md names " + name);
            }
        }
    }

    private static void remove(Path directory) throws IOException {
        try (Stream<Path> files = Files.list(directory)) {
            for (Path file : files.toList()) {
                Files.delete(file);
            }
        }
        Files.delete(directory);
    }
}
