import java.io.IOException;
import java.io.UncheckedIOException;
import java.lang.reflect.Method;
import java.lang.reflect.Modifier;
import java.net.URL;
import java.net.URLClassLoader;
import java.nio.file.Files;
import java.nio.file.Path;
import java.util.ArrayList;
import java.util.Comparator;
import java.util.List;
import java.util.Set;
import java.util.TreeSet;
import java.util.regex.Matcher;
import java.util.regex.Pattern;
import java.util.stream.Collectors;
import java.util.stream.Stream;
import javax.tools.ToolProvider;

/** What README.md says holds: its examples answer as they say, its lists name all calls and all tests. */
public final class ReadmeTest {
    private static final Path README = Path.of("README.md"), TESTS = Path.of("src/test/java");
    private static final Pattern BLOCK = Pattern.compile("(?ms)^```java\n(.*?)^```");
    private static final Pattern ANSWER = Pattern.compile("(?:int (\\w+) = )?(port\\.\\w+\\(.*\\)); +// -> (-?\\d+)\\b.*");
    private static final Pattern CALL = Pattern.compile("`(\\w+)\\(([\\w, ]*)\\)`");
    private static final Due DUE = new Due();

    public static void main(String[] args) throws Exception {
        String readme = Files.readString(README);
        examples(readme);
        calls(readme);
        tests(readme);
        constants(readme);
        DUE.finish();
    }

    /** All examples are one run on one object: they become one method, compiled and run. */
    private static void examples(String readme) throws Exception {
        StringBuilder body = new StringBuilder();
        int answers = 0;
        for (Matcher block = BLOCK.matcher(readme); block.find(); ) {
            for (String line : block.group(1).split("\n")) {
                Matcher answer = ANSWER.matcher(line);
                boolean told = answer.matches();
                body.append(told ? asked(answer) : line).append('\n');
                answers += told ? 1 : 0;
                DUE.due("README.md's line is not understood (1): " + line, line.contains("// ->") && !told ? 1 : 0, 0);
            }
        }
        List<Object[]> seen = new ArrayList<>();
        ran("public class Example {\n public static void all(java.util.List<Object[]> seen) {\n" + body + "}\n}\n", seen);
        for (Object[] row : seen) {
            DUE.due("README.md: " + row[0], (Integer) row[1], Long.parseLong((String) row[2]));
        }
        DUE.due("README.md's answers looked at", seen.size(), answers);
        DUE.due("README.md has examples (1)", answers > 0 ? 1 : 0, 1);
    }

    private static String asked(Matcher answer) {
        String name = answer.group(1), call = answer.group(2);
        String first = name == null ? "" : "int " + name + " = " + call + "; ";
        return first + "seen.add(new Object[] {\"" + call + "\", " + (name == null ? call : name) + ", \"" + answer.group(3) + "\"});";
    }

    private static void ran(String source, List<Object[]> seen) throws Exception {
        Path out = Files.createTempDirectory("readme");
        try {
            Path file = Files.writeString(out.resolve("Example.java"), source);
            int code = ToolProvider.getSystemJavaCompiler().run(null, null, null, "-cp", System.getProperty("java.class.path"),
                "-d", out.toString(), file.toString());
            DUE.due("README.md's examples, compiled", code, 0);
            if (code != 0) return;
            try (URLClassLoader loader = new URLClassLoader(new URL[] {out.toUri().toURL()}, ReadmeTest.class.getClassLoader())) {
                loader.loadClass("Example").getMethod("all", List.class).invoke(null, seen);
            }
        } finally {
            remove(out);
        }
    }

    private static void remove(Path folder) throws IOException {
        try (Stream<Path> all = Files.walk(folder)) {
            all.sorted(Comparator.reverseOrder()).forEach(path -> {
                try {
                    Files.delete(path);
                } catch (IOException e) {
                    throw new UncheckedIOException(e);
                }
            });
        }
    }

    /** Each call of the face stands once in the list of calls, with as many numbers as it takes. */
    private static void calls(String readme) {
        List<String> named = new ArrayList<>();
        for (Matcher call = CALL.matcher(readme); call.find(); ) {
            named.add(call.group(1) + " " + (call.group(2).isEmpty() ? 0 : call.group(2).split(",").length));
        }
        List<String> face = new ArrayList<>();
        for (Method method : DeepShip.class.getDeclaredMethods()) {
            if (Modifier.isPublic(method.getModifiers())) face.add(method.getName() + " " + method.getParameterCount());
        }
        named.sort(null);
        face.sort(null);
        DUE.due("README.md lists " + named + " of " + face + " (1: alike)", named.equals(face) ? 1 : 0, 1);
    }

    /** The list of tests names those there are; all other files there are named, too. */
    private static void tests(String readme) throws IOException {
        Set<String> files;
        try (Stream<Path> all = Files.list(TESTS)) {
            files = all.map(path -> path.getFileName().toString().replace(".java", "")).collect(Collectors.toCollection(TreeSet::new));
        }
        Set<String> listed = new TreeSet<>();
        for (Matcher row = Pattern.compile("(?m)^\\| (\\w+Test) \\|").matcher(readme); row.find(); ) listed.add(row.group(1));
        for (Matcher name = Pattern.compile("`([A-Z]\\w+)`").matcher(readme); name.find(); ) {
            if (files.contains(name.group(1))) listed.add(name.group(1));
        }
        DUE.due("README.md names " + listed + " of " + files + " (1: alike)", listed.equals(files) ? 1 : 0, 1);
    }

    private static void constants(String readme) throws Exception {
        Matcher row = Pattern.compile("(?m)^\\| ([-0-9, ]+) \\| ([`\\w., ]+) \\|").matcher(readme);
        int rows = 0;
        while (row.find()) {
            String[] values = row.group(1).split(", "), names = row.group(2).replaceAll("`|DeepShip\\.", "").split(", ");
            for (int i = 0; i < names.length; i++) {
                DUE.due("README.md's " + names[i], Long.parseLong(values[i]), DeepShip.class.getField(names[i]).getInt(null));
                rows++;
            }
        }
        DUE.due("README.md's constants", rows, 8);
    }
}
