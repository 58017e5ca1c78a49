import java.io.IOException;
import java.lang.reflect.InvocationTargetException;
import java.lang.reflect.Method;
import java.lang.reflect.Modifier;
import java.net.URL;
import java.net.URLClassLoader;
import java.nio.file.Files;
import java.nio.file.Path;
import java.util.ArrayList;
import java.util.List;
import java.util.regex.Matcher;
import java.util.regex.Pattern;
import java.util.stream.Stream;
import javax.tools.ToolProvider;

/** The examples of README.md answer what it tells, and it names every call and every test. */
public final class ReadmeTest {
    private static final Pattern ANSWERED = Pattern.compile("(loom\\..*\\));\\s+// (-?\\d+|true|false)\\b.*");
    private static final Pattern SILENT = Pattern.compile("CaptionLoom loom = .*|say\\(.*|loom\\.(save|restore)\\(.*");

    private final StringBuilder functions = new StringBuilder();
    private final StringBuilder calls = new StringBuilder();
    private final List<String> asked = new ArrayList<>();
    private final List<String> due = new ArrayList<>();

    private ReadmeTest() {
    }

    public static void main(String[] args) throws Exception {
        String page = Files.readString(Path.of("README.md"));
        new ReadmeTest().runExamples(page);
        namesEveryCall(page);
        namesEveryTest(page);
        Checks.end();
    }

    private void runExamples(String page) throws Exception {
        Matcher example = Pattern.compile("```java\n(.*?)```", Pattern.DOTALL).matcher(page);
        while (example.find()) {
            if (example.group(1).startsWith("static")) {
                functions.append(example.group(1));
            } else {
                example.group(1).lines().forEach(this::takeLine);
            }
        }
        Checks.due("there are examples with answers", true, !asked.isEmpty());
        Path folder = Files.createTempDirectory("readme");
        try {
            runProgram(folder);
        } finally {
            delete(folder);
        }
    }

    private void takeLine(String line) {
        Matcher answered = ANSWERED.matcher(line);
        if (answered.matches()) {
            String call = answered.group(1);
            calls.append("got.add(String.valueOf(" + call + "));\n");
            asked.add(call);
            due.add(answered.group(2));
        } else {
            Checks.due("README tells the answer of " + line, true, SILENT.matcher(line).matches());
            calls.append(line).append('\n');
        }
    }

    private void runProgram(Path folder) throws Exception {
        Path file = folder.resolve("ReadmeExamples.java");
        Files.writeString(file, "public final class ReadmeExamples {\n" + functions
            + "public static void run(java.util.List<String> got) {\n" + calls + "}\n}\n");
        String path = System.getProperty("java.class.path");
        int code = ToolProvider.getSystemJavaCompiler().run(null, null, null,
            "-proc:none", "-cp", path, "-d", folder.toString(), file.toString());
        Checks.due("compiling the examples of README", 0, code);
        if (code != 0) {
            return;
        }
        try (URLClassLoader loader = new URLClassLoader(new URL[] {folder.toUri().toURL()})) {
            compareAnswers(loader.loadClass("ReadmeExamples").getMethod("run", List.class));
        }
    }

    private void compareAnswers(Method examples) throws IllegalAccessException {
        List<String> got = new ArrayList<>();
        try {
            examples.invoke(null, got);
        } catch (InvocationTargetException e) {
            System.out.println("README: " + e.getCause());
        }
        Checks.due("the answered calls of README", asked.size(), got.size());
        for (int i = 0; i < got.size(); i++) {
            Checks.due("README: " + asked.get(i), due.get(i), got.get(i));
        }
    }

    private static void delete(Path folder) throws IOException {
        try (Stream<Path> files = Files.list(folder)) {
            for (Path file : files.toList()) {
                Files.delete(file);
            }
        }
        Files.delete(folder);
    }

    private static void namesEveryCall(String page) {
        for (Method method : CaptionLoom.class.getDeclaredMethods()) {
            if (Modifier.isPublic(method.getModifiers())) {
                String name = method.getName();
                Checks.due("README names " + name, true,
                    page.contains("`" + name + "`") || page.contains("." + name + "("));
            }
        }
    }

    private static void namesEveryTest(String page) throws IOException {
        try (Stream<Path> files = Files.list(Path.of("src/test/java"))) {
            List<String> names = files.map(f -> f.getFileName().toString())
                .filter(n -> n.endsWith("Test.java")).map(n -> n.replace(".java", "")).toList();
            Checks.due("there are tests", true, names.size() > 0);
            for (String name : names) {
                Checks.due("README names " + name, true, page.contains("`" + name + "`"));
            }
        }
    }
}
