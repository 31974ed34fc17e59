import java.io.IOException;
import java.lang.reflect.Method;
import java.lang.reflect.Modifier;
import java.net.URL;
import java.net.URLClassLoader;
import java.nio.file.Files;
import java.nio.file.Path;
import java.util.ArrayList;
import java.util.Comparator;
import java.util.List;
import java.util.TreeSet;
import java.util.regex.Matcher;
import java.util.regex.Pattern;
import java.util.stream.Stream;
import javax.tools.ToolProvider;

/** README.md tells of what there is: its calls answer as it says, its tests and classes are those that there are. */
public final class ReadmeTests {
    private static final Pattern CALL =
            Pattern.compile("(x\\.\\w+\\(.*\\)); *// ([A-Z]+ \\+ [A-Z]+|[A-Z]{2,}|-?\\d+)\\b.*");
    private static final String BLOCK = "(?s)```java\n(.*?)```";

    private ReadmeTests() {
    }

    public static void main(String[] args) throws IOException, ReflectiveOperationException {
        Due due = new Due("ReadmeTests");
        Path program = Path.of(args[0]).toAbsolutePath();
        Path root = program.getParent().getParent().getParent().getParent();
        String readme = Files.readString(root.resolve("README.md"));
        TreeSet<String> called = new TreeSet<>();
        List<String> lines = new ArrayList<>();
        Matcher block = Pattern.compile(BLOCK).matcher(readme);
        while (block.find()) {
            for (String line : block.group(1).split("\n")) {
                lines.add(asChecked(due, line, called));
            }
        }
        for (Method method : GloveHours.class.getDeclaredMethods()) {
            boolean isShown = called.contains(method.getName()) || !Modifier.isPublic(method.getModifiers());
            due.holds("README.md shows " + method.getName(), isShown);
        }
        names(due, readme, root);
        run(due, lines);
        due.end();
    }

    /** The line as it stands, or a look at the answer that it tells. */
    private static String asChecked(Due due, String line, TreeSet<String> called) {
        Matcher call = CALL.matcher(line);
        Matcher any = Pattern.compile("x\\.(\\w+)\\(").matcher(line);
        while (any.find()) {
            called.add(any.group(1));
        }
        if (!call.matches()) {
            due.holds("an answer stands behind \"" + line + "\"", !line.startsWith("x."));
            return line;
        }
        String answer = call.group(2).replaceAll("([A-Z]+)", "GloveHours.$1");
        return "told.add(\"" + call.group(1) + "\"); got.add((long) " + call.group(1) + ");"
                + " want.add((long) (" + answer + "));";
    }

    private static void names(Due due, String readme, Path root) throws IOException {
        try (Stream<Path> files = Files.list(root.resolve("src/test/java"))) {
            for (Path file : (Iterable<Path>) files.sorted()::iterator) {
                String name = file.getFileName().toString().replace(".java", "");
                due.holds("README.md names " + name, readme.contains("`" + name + "`"));
            }
        }
        Matcher tests = Pattern.compile("`(\\w*Tests|EdgesOf\\w+)`").matcher(readme);
        while (tests.find()) {
            String file = "src/test/java/" + tests.group(1) + ".java";
            due.holds(file + " is there", Files.exists(root.resolve(file)));
        }
        for (Class<?> inner : GloveHours.class.getDeclaredClasses()) {
            due.holds("README.md names " + inner, readme.contains("- `" + inner.getSimpleName() + "`:"));
        }
    }

    private static void run(Due due, List<String> lines) throws IOException, ReflectiveOperationException {
        Path directory = Files.createTempDirectory("readme");
        try {
            Path source = directory.resolve("ReadmeCalls.java");
            Files.writeString(source, "import java.util.List; public final class ReadmeCalls {\n"
                    + "public static void run(List<String> told, List<Long> got, List<Long> want) {\n"
                    + String.join("\n", lines) + "\n} }\n");
            int compiled = ToolProvider.getSystemJavaCompiler().run(null, null, null,
                    "-d", directory.toString(), "-cp", System.getProperty("java.class.path"), source.toString());
            due.same("javac of README.md's calls", compiled, 0);
            if (compiled == 0) {
                play(due, directory);
            }
        } finally {
            try (Stream<Path> all = Files.walk(directory)) {
                for (Path path : (Iterable<Path>) all.sorted(Comparator.reverseOrder())::iterator) {
                    Files.delete(path);
                }
            }
        }
    }

    private static void play(Due due, Path directory) throws IOException, ReflectiveOperationException {
        try (URLClassLoader loader = new URLClassLoader(new URL[] {directory.toUri().toURL()})) {
            List<String> told = new ArrayList<>();
            List<Long> got = new ArrayList<>();
            List<Long> want = new ArrayList<>();
            loader.loadClass("ReadmeCalls").getMethod("run", List.class, List.class, List.class)
                    .invoke(null, told, got, want);
            for (int i = 0; i < told.size(); i++) {
                due.same(told.get(i), got.get(i), want.get(i));
            }
        }
    }
}
