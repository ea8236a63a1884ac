import java.io.IOException;
import java.lang.reflect.Method;
import java.lang.reflect.Modifier;
import java.net.URL;
import java.net.URLClassLoader;
import java.nio.file.Files;
import java.nio.file.Path;
import java.util.ArrayList;
import java.util.Arrays;
import java.util.List;
import java.util.Map;
import java.util.TreeMap;
import java.util.TreeSet;
import java.util.concurrent.Callable;
import java.util.regex.Matcher;
import java.util.regex.Pattern;
import javax.tools.ToolProvider;

/** README.md's example answers what its comments say, and its table has every call with what it throws. */
public final class ReadmeTest {
    private static final Pattern EXAMPLE = Pattern.compile("(?s)```java\n(.*?)```");
    private static final Pattern ANSWER = Pattern.compile("(?m)^\\w+ (\\w+) = .*; *// (\\w+):");
    private static final Pattern ROW = Pattern.compile("(?m)^\\| `(\\w+)\\((.*?)\\)` \\|.*\\|(.*)\\|$");
    private static final Pattern EXCEPTION = Pattern.compile("`(\\w+Exception)`");

    public static void main(String[] args) throws Exception {
        String readme = Files.readString(Path.of("README.md"));
        example(readme);
        table(readme);
        Check.end("ReadmeTest");
    }

    private static void example(String readme) throws Exception {
        Matcher block = EXAMPLE.matcher(readme);
        Check.due("there is an example", block.find(), true);
        List<String> names = new ArrayList<>();
        List<String> due = new ArrayList<>();
        Matcher answer = ANSWER.matcher(block.group(1));
        while (answer.find()) {
            names.add(answer.group(1));
            due.add(answer.group(2));
        }
        Check.due("the example tells answers", names.size() >= 4, true);
        Check.due("the example's answers " + names, run(block.group(1), names), due.toString());
    }

    private static String run(String example, List<String> names) throws Exception {
        Path folder = Files.createTempDirectory("example");
        try {
            Path file = folder.resolve("Example.java");
            Files.writeString(file, "public class Example implements java.util.concurrent.Callable<String> {\n"
                    + "public String call() {\n" + example
                    + "return java.util.List.of(" + String.join(", ", names) + ").toString(); } }\n");
            int failed = ToolProvider.getSystemJavaCompiler().run(null, null, null, "-d", folder.toString(),
                    "-cp", System.getProperty("java.class.path"), file.toString());
            return failed == 0 ? load(folder).call().toString() : "does not compile";
        } finally {
            delete(folder);
        }
    }

    private static Callable<?> load(Path folder) throws Exception {
        try (URLClassLoader loader = new URLClassLoader(new URL[] {folder.toUri().toURL()})) {
            return (Callable<?>) loader.loadClass("Example").getDeclaredConstructor().newInstance();
        }
    }

    private static void delete(Path folder) throws IOException {
        Files.deleteIfExists(folder.resolve("Example.class"));
        Files.deleteIfExists(folder.resolve("Example.java"));
        Files.deleteIfExists(folder);
    }

    private static void table(String readme) {
        Map<String, String> rows = new TreeMap<>();
        Matcher row = ROW.matcher(readme);
        while (row.find()) {
            int parameters = row.group(2).isEmpty() ? 0 : row.group(2).split(",").length;
            rows.put(row.group(1) + " of " + parameters, exceptions(row.group(3)));
        }
        // Its row points to that of consent.
        rows.put("object of 2", rows.get("consent of 2"));
        Map<String, String> due = new TreeMap<>();
        for (Method method : SealTrust.class.getDeclaredMethods()) {
            if (Modifier.isPublic(method.getModifiers())) {
                due.put(method.getName() + " of " + method.getParameterCount(), thrown(method));
            }
        }
        for (String call : due.keySet()) {
            Check.due("what the table says that " + call + " throws", rows.get(call), due.get(call));
        }
        Check.due("calls of the table", rows.keySet(), due.keySet());
    }

    private static String exceptions(String cell) {
        TreeSet<String> all = new TreeSet<>();
        Matcher exception = EXCEPTION.matcher(cell);
        while (exception.find()) {
            all.add(exception.group(1));
        }
        return all.toString();
    }

    private static String thrown(Method method) {
        return new TreeSet<>(Arrays.stream(method.getExceptionTypes()).map(Class::getSimpleName).toList()).toString();
    }
}
