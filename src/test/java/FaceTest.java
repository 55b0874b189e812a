import java.io.IOException;
import java.lang.reflect.Constructor;
import java.lang.reflect.Field;
import java.lang.reflect.Method;
import java.lang.reflect.Modifier;
import java.nio.file.Files;
import java.nio.file.Path;
import java.util.ArrayList;
import java.util.Arrays;
import java.util.List;
import java.util.NoSuchElementException;
import java.util.Set;
import java.util.TreeSet;

/** The face is the document's and no other; and the source keeps to what LANGUAGE.md lets it use. */
public final class FaceTest {
    private static final String[] FACE = {
        "int feed(int,int,int,int,int)", "int piece(int)", "int fault()", "int where()",
        "int about(int)", "int note(int,int)", "int weight(int)", "int breaks(int,int)",
        "int head(int,int)", "int split(int,int)", "int breaksBy(int,int,int)", "long ways(int,int)",
        "int splitCost(int,int,int)", "int second(int,int)", "int broken(int,int,int,int,int)",
        "int joinings()", "int joining(int,int)", "int breaksOf(int)", "int deepest()",
        "int level(int)", "int levelNote(int,int,int)", "int path(int)", "int reach(int,int)",
        "int climax(int)", "int widest(int)", "int echo(int,int)", "int over(int,int)",
        "int under(int)", "int firm(int,boolean)", "int sways(int,int)", "int swayed(int,int)",
        "int twins(int,int,int)", "int twin(int)", "int alike(int,int,int)", "int keep()",
        "int unlike(int)", "int keptBreaks()", "int pitch(int,int)", "int last(int,int)",
        "int weigh(int,int)", "int key(int)", "int move(int)", "boolean undo()", "int bare(int)",
        "int size(int)", "int trouble()"};

    private static final Class<?>[] BARE_THROWS = {NoSuchElementException.class};

    private static final String[] UNUSED = {
        "try ", "catch", "finally", "synchronized", "assert ", "->", "::", "System.", "Exact(",
        "Thread", "Random", "instanceof", "double", "float", ".equals(", ".hashCode(", "toString"};

    private static String told(Method m) {
        List<String> types = new ArrayList<>();
        for (Class<?> type : m.getParameterTypes()) {
            types.add(type.getName());
        }
        return m.getReturnType().getName() + " " + m.getName() + "(" + String.join(",", types) + ")";
    }

    private static void face() {
        Class<?> c = HeadTrees.class;
        Check.due("final", Modifier.isFinal(c.getModifiers()) && Modifier.isPublic(c.getModifiers()), true);
        Set<String> open = new TreeSet<>();
        for (Method m : c.getDeclaredMethods()) {
            if (!Modifier.isPrivate(m.getModifiers())) {
                open.add(told(m));
                Check.due(m + " is public", Modifier.isPublic(m.getModifiers()), true);
                Check.due(m + " tells what it throws", Arrays.equals(m.getExceptionTypes(),
                        m.getName().equals("bare") ? BARE_THROWS : new Class<?>[0]), true);
            }
        }
        Set<String> due = new TreeSet<>(Arrays.asList(FACE));
        Check.due("the methods " + open + ", due are " + due, open.equals(due), true);
        for (Field f : c.getDeclaredFields()) {
            Check.due("field " + f, Modifier.isPrivate(f.getModifiers()), !f.getName().equals("NONE"));
        }
        Constructor<?>[] made = c.getDeclaredConstructors();
        Check.due("constructors", made.length, 1);
        Check.due("its parameters", made[0].getParameterCount(), 0);
        Check.due("NONE", HeadTrees.NONE, -1);
    }

    private static void inside() {
        Set<String> names = new TreeSet<>();
        for (String told : FACE) {
            names.add(told.substring(told.indexOf(' ') + 1, told.indexOf('(')));
        }
        Class<?>[] classes = HeadTrees.class.getDeclaredClasses();
        Check.due("at most some twelve classes", classes.length < 12, true);
        for (Class<?> c : classes) {
            Check.due(c + " is static", Modifier.isStatic(c.getModifiers()), true);
            for (Method m : c.getDeclaredMethods()) {
                Check.due(m + " bears no public name", names.contains(m.getName()), false);
                Check.due(m + " takes at most seven", m.getParameterCount() <= 7, true);
            }
            Check.due("fields of " + c, ownFields(c) <= 20, true);
        }
        Check.due("fields", ownFields(HeadTrees.class) <= 20, true);
        for (Method m : HeadTrees.class.getDeclaredMethods()) {
            if (Modifier.isPrivate(m.getModifiers())) {
                Check.due(m + " bears no public name", names.contains(m.getName()), false);
            }
        }
    }

    private static int ownFields(Class<?> c) {
        int sum = 0;
        for (Field f : c.getDeclaredFields()) {
            sum += Modifier.isStatic(f.getModifiers()) ? 0 : 1;
            Check.due(f + " static and not final", Modifier.isStatic(f.getModifiers())
                    && !Modifier.isFinal(f.getModifiers()), false);
        }
        return sum;
    }

    private static void source() throws IOException {
        int methodFrom = 0;
        List<String> lines = Files.readAllLines(Path.of("src/main/java/HeadTrees.java"));
        for (int at = 0; at < lines.size(); at++) {
            String line = lines.get(at);
            String code = line.trim();
            if (code.startsWith("import")) {
                Check.due(code, code.equals("import java.util.NoSuchElementException;"), true);
            }
            boolean words = code.startsWith("//") || code.startsWith("*") || code.startsWith("/*");
            for (String unused : UNUSED) {
                Check.due(unused + " in line " + (at + 1), !words && code.contains(unused), false);
            }
            if (line.matches(" {4,8}[a-z].*\\) (throws \\w+ )?\\{")) {
                methodFrom = at;
            }
            if (line.matches(" {4,8}\\}")) {
                Check.due("a method that ends in line " + (at + 1) + " is short",
                        at - methodFrom <= 60 || line.matches(" {4}\\}") && lines.get(at - 1).matches(" {8}\\}"), true);
            }
        }
    }

    public static void main(String[] args) throws IOException {
        face();
        inside();
        source();
        Check.end("FaceTest");
    }
}
