import java.io.PrintWriter;
import java.io.StringWriter;
import java.lang.reflect.Constructor;
import java.lang.reflect.Field;
import java.lang.reflect.Method;
import java.lang.reflect.Modifier;
import java.nio.file.Path;
import java.util.ArrayList;
import java.util.HashMap;
import java.util.List;
import java.util.Map;
import java.util.Set;
import java.util.TreeSet;
import java.util.regex.Matcher;
import java.util.regex.Pattern;
import java.util.spi.ToolProvider;

/** What LANGUAGE.md bounds by a number or a list, looked at in the compiled class. */
public final class LanguageTest {
    private static final Pattern CALL = Pattern.compile(
            "invoke(?:virtual|special|static|interface|dynamic).*// (?:Interface)?Method (\\S+?):.*|(invokedynamic).*");
    private static final Pattern METHOD = Pattern.compile("^  \\S.*?([\\w$.]+)\\(.*\\).*;$");
    private static final Set<String> LIBRARY = Set.of("java/lang/Object.\"<init>\"", "java/lang/Math.max",
            "java/lang/Math.min", "java/lang/Math.abs", "java/lang/Math.floorMod", "java/lang/String.length",
            "java/lang/String.charAt", "java/util/NoSuchElementException.\"<init>\"");

    private final Map<String, List<String>> calls = new HashMap<>();
    private final Map<String, String> bodies = new HashMap<>();

    private static List<Class<?>> classes() {
        List<Class<?>> all = new ArrayList<>(List.of(HeadTrees.class.getDeclaredClasses()));
        all.add(HeadTrees.class);
        return all;
    }

    private static String disassembled(Class<?> c) throws Exception {
        Path made = Path.of(c.getProtectionDomain().getCodeSource().getLocation().toURI());
        StringWriter text = new StringWriter();
        PrintWriter out = new PrintWriter(text);
        ToolProvider.findFirst("javap").orElseThrow().run(out, out, "-c", "-p",
                made.resolve(c.getName() + ".class").toString());
        out.flush();
        return text.toString();
    }

    private void learn(Class<?> c) throws Exception {
        String method = "";
        for (String line : disassembled(c).split("\n")) {
            Matcher head = METHOD.matcher(line);
            if (head.matches() && !line.startsWith("    ")) {
                String name = head.group(1);
                method = c.getName() + "." + (name.equals(c.getName()) ? "\"<init>\"" : name);
                calls.put(method, new ArrayList<>());
                bodies.put(method, "");
            } else if (!method.isEmpty()) {
                bodies.put(method, bodies.get(method) + line + "\n");
                Matcher call = CALL.matcher(line.trim().replaceFirst("^\\d+: ", ""));
                if (call.matches()) {
                    String called = call.group(1) == null ? "invokedynamic" : call.group(1);
                    calls.get(method).add(called.contains(".") ? called : c.getName() + "." + called);
                }
            }
        }
    }

    /** How many calls stand open at most; a call that comes back to itself goes beyond all bounds. */
    private int depth(String method, int open) {
        if (open > 40) {
            return open;
        }
        int deepest = open;
        for (String called : calls.getOrDefault(method, List.of())) {
            if (calls.containsKey(called)) {
                deepest = Math.max(deepest, depth(called, open + 1));
            }
        }
        return deepest;
    }

    private void calls() {
        Check.sentence("rules 8 and 11: no recursion, calls go at most eight deep");
        for (String method : calls.keySet()) {
            int deep = depth(method, 1);
            Check.due(method + " goes " + deep + " deep", deep <= 8, true);
        }
        Check.sentence("rule 4: the library: only what stands here");
        for (String method : calls.keySet()) {
            for (String called : calls.get(method)) {
                Check.due(method + " calls " + called, calls.containsKey(called) || LIBRARY.contains(called), true);
            }
        }
        Check.sentence("rule 6: a call throws exactly what and where the document says");
        for (String method : bodies.keySet()) {
            Check.due(method + " throws", bodies.get(method).contains("athrow"), method.equals("HeadTrees.bare"));
            Check.due(method + " catches", bodies.get(method).contains("Exception table"), false);
        }
    }

    private void instructions() {
        Check.sentence("rule 7: no divisor but one that was looked at, no cast");
        for (String method : bodies.keySet()) {
            boolean divides = bodies.get(method).matches("(?s).*\\d: [il](rem)\\b.*");
            Check.due(method + " has a rest", divides, method.endsWith("Score.isMultiple"));
            boolean halves = bodies.get(method).matches("(?s).*\\d: [il](div)\\b.*");
            boolean byTwo = bodies.get(method).matches("(?s).*iconst_2\\s+\\d+: idiv\\b.*");
            Check.due(method + " divides, but by 2", halves && !byTwo, false);
            Check.due(method + " casts", bodies.get(method).contains("checkcast"), false);
        }
    }

    private static boolean fairType(Class<?> type) {
        Class<?> of = type.isArray() ? type.getComponentType() : type;
        return of.isPrimitive() || of.getName().startsWith("HeadTrees");
    }

    private static void members() {
        Check.sentence("rule 3: types; rule 5: static fields are final constants");
        for (Class<?> c : classes()) {
            for (Field f : c.getDeclaredFields()) {
                Check.due(f + " is of a fair type", fairType(f.getType()), true);
                boolean shared = Modifier.isStatic(f.getModifiers());
                Check.due(f + " is a constant", !shared || Modifier.isFinal(f.getModifiers())
                        && f.getType().isPrimitive(), true);
            }
        }
        Check.sentence("rule 11: a method takes at most seven parameters");
        for (Class<?> c : classes()) {
            for (Method m : c.getDeclaredMethods()) {
                Check.due(m.toString(), m.getParameterCount() <= 7, true);
            }
            for (Constructor<?> made : c.getDeclaredConstructors()) {
                Check.due(made.toString(), made.getParameterCount() <= 7, true);
            }
        }
        Check.sentence("rule 11: at most some twelve classes, a class some twenty fields");
        Check.due("classes", classes().size() <= 12, true);
        for (Class<?> c : classes()) {
            Set<String> fields = new TreeSet<>();
            for (Field f : c.getDeclaredFields()) {
                if (!Modifier.isStatic(f.getModifiers())) {
                    fields.add(f.getName());
                }
            }
            Check.due(c + " has " + fields, fields.size() <= 20, true);
        }
    }

    public static void main(String[] args) throws Exception {
        LanguageTest test = new LanguageTest();
        for (Class<?> c : classes()) {
            test.learn(c);
        }
        Check.sentence("all methods are found");
        for (Class<?> c : classes()) {
            for (Method m : c.getDeclaredMethods()) {
                Check.due(c.getName() + "." + m.getName(), test.calls.containsKey(c.getName() + "." + m.getName()), true);
            }
        }
        test.calls();
        test.instructions();
        members();
        Check.end("LanguageTest");
    }
}
