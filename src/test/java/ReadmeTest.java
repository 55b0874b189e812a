import java.io.IOException;
import java.lang.reflect.Method;
import java.net.URL;
import java.net.URLClassLoader;
import java.nio.file.Files;
import java.nio.file.Path;
import java.util.ArrayList;
import java.util.List;
import java.util.regex.Matcher;
import java.util.regex.Pattern;
import javax.tools.ToolProvider;

/** README.md tells how to use the class: its code is compiled and run, each answer beside what it tells. */
public final class ReadmeTest {
    private static final Pattern BLOCK = Pattern.compile("```java\n(.*?)```", Pattern.DOTALL);
    // A call that begins a line, up to the first end of a line that tells its answer.
    private static final Pattern ANSWER = Pattern.compile(
            "^((?:x\\.|read\\()(?:[^\n]|\n(?= ))*\\));\\s+// (-?\\d+|true|false)\\b.*$", Pattern.MULTILINE);

    private static List<String> blocks(String text) {
        List<String> found = new ArrayList<>();
        Matcher block = BLOCK.matcher(text);
        while (block.find()) {
            found.add(block.group(1));
        }
        return found;
    }

    private static String asTest(String code) {
        StringBuilder test = new StringBuilder();
        Matcher told = ANSWER.matcher(code);
        int from = 0;
        while (told.find()) {
            String call = told.group(1);
            String name = call.replace("\\", "\\\\").replace("\"", "'").replaceAll("\\s+", " ");
            test.append(code, from, told.start());
            test.append("due(\"" + name + "\", " + call + ", " + told.group(2) + ");");
            from = told.end();
        }
        return test.append(code.substring(from)).toString();
    }

    private static String program(String helper, String use) {
        return "public final class ReadmeCode {\n"
                + "static java.util.List<String> told = new java.util.ArrayList<>();\n"
                + "static void due(String call, Object got, Object want) {\n"
                + "told.add(call + \"\\t\" + got + \"\\t\" + want);\n}\n"
                + helper + "public static java.util.List<String> run() {\n" + asTest(use)
                + "return told;\n}\n}\n";
    }

    private static List<?> ran(Path folder) throws Exception {
        URL[] places = {folder.toUri().toURL()};
        try (URLClassLoader loader = new URLClassLoader(places, ReadmeTest.class.getClassLoader())) {
            return (List<?>) loader.loadClass("ReadmeCode").getMethod("run").invoke(null);
        }
    }

    private static void code(String helper, String use) throws Exception {
        Path folder = Files.createDirectories(Path.of("build/readme"));
        Path file = folder.resolve("ReadmeCode.java");
        Files.writeString(file, program(helper, use));
        String made = Path.of(HeadTrees.class.getProtectionDomain().getCodeSource().getLocation().toURI()).toString();
        int compiled = ToolProvider.getSystemJavaCompiler().run(null, null, null, "--release", "17",
                "-cp", made, "-d", folder.toString(), file.toString());
        Check.due("the code of README.md compiles", compiled, 0);
        if (compiled != 0) {
            return;
        }
        List<?> told = ran(folder);
        long lines = use.lines().filter(line -> line.contains(";  ") && line.contains("// ")).count();
        Check.due("calls with an answer", told.size(), lines);
        for (Object one : told) {
            String[] row = one.toString().split("\t");
            Check.due("README.md: " + row[0] + " answered " + row[1] + ", it tells " + row[2],
                    row[1].equals(row[2]), true);
        }
    }

    private static void allCalls(String text) {
        for (Method m : HeadTrees.class.getMethods()) {
            if (m.getDeclaringClass() == HeadTrees.class) {
                Check.due("README.md shows " + m.getName(), text.contains("x." + m.getName() + "("), true);
            }
        }
    }

    // Each test, and no other, stands in the list of tests.
    private static void allTests(String text) throws IOException {
        Check.due("README.md tells of .ci/run", text.contains("`.ci/run`"), true);
        try (var files = Files.list(Path.of("src/test/java"))) {
            for (Path file : files.toList()) {
                String name = file.getFileName().toString().replace(".java", "");
                if (name.endsWith("Test")) {
                    Check.due("README.md tells of " + name, text.contains("`" + name + "`"), true);
                }
            }
        }
        Matcher test = Pattern.compile("`(\\w+Test)`").matcher(text);
        while (test.find()) {
            Check.due(test.group(1) + " is there", Files.exists(Path.of("src/test/java", test.group(1) + ".java")), true);
        }
    }

    public static void main(String[] args) throws Exception {
        String text = Files.readString(Path.of("README.md"));
        List<String> blocks = blocks(text);
        Check.due("blocks of code: a helper, and the calls", blocks.size(), 2);
        if (blocks.size() == 2) {
            code(blocks.get(0), blocks.get(1));
        }
        allCalls(text);
        allTests(text);
        Check.end("ReadmeTest");
    }
}
