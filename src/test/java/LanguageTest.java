import java.io.IOException;
import java.lang.management.ManagementFactory;
import java.lang.reflect.Field;
import java.lang.reflect.Method;
import java.lang.reflect.Modifier;
import java.nio.file.Files;
import java.nio.file.Path;
import java.util.Set;
import java.util.TreeSet;

/** What of ../shared/LANGUAGE.md a test can see: the face, static state, forbidden words, and what calls make. */
public final class LanguageTest {
    private static final Set<String> METHODS = Set.of("put", "define", "drop", "set", "grant", "tick", "pay", "payAll",
        "found", "take", "restore", "undo", "append", "clearText", "count", "value", "change", "view", "kept", "ask",
        "ruin", "settled", "needed", "since");
    private static final Set<String> CONSTANTS = Set.of("INVALID_ARGUMENT", "ILLEGAL_STATE", "CAPACITY_EXCEEDED", "NONE");
    private static final String[] FORBIDDEN = {"throw", "throws", "try", "catch", "finally", "synchronized", "assert",
        "import", "package", "protected", "native", "volatile", "transient", "var", "yield", "super", "System.exit",
        "Object", "Exception", "->", "::", "Exact"};
    private static final int MOST_CLASSES = 12;
    private static final int MOST_FIELDS = 20;
    private static final int MOST_METHOD_LINES = 60;

    private static int made;

    public static void main(String[] args) throws IOException {
        face();
        innerClasses();
        words();
        callsMakeNothing();
        Check.end("LanguageTest");
    }

    private static void face() {
        Check.due("modifiers", DebtorViews.class.getModifiers(), Modifier.PUBLIC | Modifier.FINAL);
        Set<String> methods = new TreeSet<>();
        for (Method method : DebtorViews.class.getDeclaredMethods()) {
            if (!Modifier.isPrivate(method.getModifiers())) {
                methods.add(method.getName());
                Check.due(method + " is public", method.getModifiers(), Modifier.PUBLIC);
            } else {
                Check.due(method + " has a name of its own", METHODS.contains(method.getName()) ? 1 : 0, 0);
            }
        }
        Check.dueText("methods", methods.toString(), new TreeSet<>(METHODS).toString());
        Set<String> fields = new TreeSet<>();
        for (Field field : DebtorViews.class.getDeclaredFields()) {
            if (!Modifier.isPrivate(field.getModifiers())) {
                fields.add(field.getName());
            }
        }
        Check.dueText("constants", fields.toString(), new TreeSet<>(CONSTANTS).toString());
        Check.due("constructors", DebtorViews.class.getDeclaredConstructors().length, 1);
    }

    private static void innerClasses() {
        Class<?>[] inner = DebtorViews.class.getDeclaredClasses();
        Check.due("few classes", inner.length < MOST_CLASSES ? 1 : 0, 1);
        fields(DebtorViews.class);
        for (Class<?> c : inner) {
            Check.due(c + " is static", Modifier.isStatic(c.getModifiers()) ? 1 : 0, 1);
            fields(c);
            for (Method method : c.getDeclaredMethods()) {
                Check.due(method + " has a name of its own", METHODS.contains(method.getName()) ? 1 : 0, 0);
            }
        }
    }

    private static void fields(Class<?> c) {
        int own = 0;
        for (Field field : c.getDeclaredFields()) {
            if (Modifier.isStatic(field.getModifiers())) {
                Check.due(field + " is final", Modifier.isFinal(field.getModifiers()) ? 1 : 0, 1);
            } else {
                own++;
            }
        }
        Check.due(c + " has few fields", own <= MOST_FIELDS ? 1 : 0, 1);
    }

    private static void words() throws IOException {
        Path root = Path.of(System.getProperty("debtorViews.root", "."));
        String source = Files.readString(root.resolve("src/main/java/DebtorViews.java"));
        String code = source.replaceAll("(?s)/\\*.*?\\*/", "").replaceAll("//[^\\n]*", "").replaceAll("\"[^\"\\n]*\"", "\"\"");
        for (String word : FORBIDDEN) {
            String pattern = Character.isLetter(word.charAt(0)) ? "\\b" + word + "\\b" : word;
            Check.due("the source has " + word, java.util.regex.Pattern.compile(pattern).matcher(code).find() ? 1 : 0, 0);
        }
        Check.due("signs are 1 to 127", (int) source.chars().filter(c -> c > 127).count(), 0);
        Check.due("the longest method is short", longestMethod(source.split("\n")) <= MOST_METHOD_LINES ? 1 : 0, 1);
    }

    /** A method ends at the first lone bracket that stands as deep as its head. */
    private static int longestMethod(String[] lines) {
        int longest = 0;
        for (int head = 0; head < lines.length; head++) {
            if (lines[head].matches("( {4}| {8})\\S.*\\) \\{")) {
                String end = lines[head].replaceAll("\\S.*", "") + "}";
                int last = head;
                while (last < lines.length && !lines[last].equals(end)) {
                    last++;
                }
                longest = Math.max(longest, last - head + 1);
            }
        }
        return longest;
    }

    private static void callsMakeNothing() {
        com.sun.management.ThreadMXBean threads = (com.sun.management.ThreadMXBean) ManagementFactory.getThreadMXBean();
        DebtorViews[] objects = {new DebtorViews(), new DebtorViews()};
        everyCall(objects[0]);
        long before = threads.getCurrentThreadAllocatedBytes();
        everyCall(objects[1]);
        long bytes = threads.getCurrentThreadAllocatedBytes() - before;
        Check.due("calls make few objects, for they made " + bytes + " bytes", bytes < 4096 ? 1 : 0, 1);
    }

    private static void everyCall(DebtorViews x) {
        for (int i = 0; i < 20; i++) {
            x.append("less 0 1".charAt(i % 8));
        }
        made += x.clearText() + x.define();
        x.append('j');
        x.append('o');
        x.append('i');
        x.append('n');
        x.append('0');
        x.append('-');
        x.append('9');
        made += x.define() + x.take(0) + x.put(0, 0, 1) + x.put(1, 0, 2) + x.tick() + x.grant(99) + x.set(2, 1);
        made += x.tick() + x.found(0) + x.put(0, 0, 3) + x.pay(0, 1) + x.payAll() + x.take(1) + x.restore(0) + x.undo();
        made += x.ruin(0) + x.settled(1, 50) + x.needed() + x.since(0) + x.kept(0) + x.ask(0, 2, 0) + x.ask(0, 2, 1);
        made += x.count(5) + x.value(0, 0, 1) + x.change(0, 3) + x.view(0, 8) + x.drop(0);
    }
}
