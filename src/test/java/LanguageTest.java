import java.io.IOException;
import java.lang.management.ManagementFactory;
import java.lang.reflect.Field;
import java.lang.reflect.Method;
import java.lang.reflect.Modifier;
import java.nio.file.Files;
import java.nio.file.Path;
import java.util.Set;
import java.util.TreeSet;

/** What of ../shared/LANGUAGE.md a test can see: the face, static state, forbidden words, and what calls make. */
public final class LanguageTest {
    private static final Set<String> METHODS = Set.of("put", "define", "drop", "set", "grant", "tick", "pay", "payAll",
        "found", "take", "restore", "undo", "append", "clearText", "count", "value", "change", "view", "kept", "ask",
        "ruin", "settled", "needed", "since");
    private static final Set<String> CONSTANTS = Set.of("INVALID_ARGUMENT", "ILLEGAL_STATE", "CAPACITY_EXCEEDED", "NONE");
    private static final String[] FORBIDDEN = {"\\bthrows?\\b", "\\btry\\b", "\\bcatch\\b", "\\bfinally\\b",
        "\\bsynchronized\\b", "\\bassert\\b", "\\bpackage\\b", "\\bprotected\\b", "\\bObject\\b", "\\bnew \\w*(Exception|Error)\\b",
        "->", "::", "Exact\\b", "\\bstatic\\s*\\{", "System\\.(?!arraycopy)", "\\bThread\\b", "Math\\.random"};
    private static final String IMPORTS = "java\\.util\\.(ArrayList|List|Arrays|Iterator)";
    /** The rule says some twelve classes, some twenty fields and some sixty lines: these are a little above. */
    private static final int MOST_CLASSES = 14;
    private static final int MOST_FIELDS = 24;
    private static final int MOST_METHOD_LINES = 70;
    private static final int MOST_PARAMETERS = 7;
    /** The room of a run of calls: 600,000 objects and arrays with their heads, 7.3 million fields and elements. */
    private static final long ROOM = 600_000L * 16 + 7_300_000L * 4;

    private static int made;

    public static void main(String[] args) throws IOException {
        face();
        innerClasses();
        words();
        callsKeepToTheRoom();
        Check.end("LanguageTest");
    }

    private static void face() {
        Check.due("modifiers", DebtorViews.class.getModifiers(), Modifier.PUBLIC | Modifier.FINAL);
        Set<String> methods = new TreeSet<>();
        for (Method method : DebtorViews.class.getDeclaredMethods()) {
            if (!Modifier.isPrivate(method.getModifiers())) {
                methods.add(method.getName());
                Check.due(method + " is public", method.getModifiers(), Modifier.PUBLIC);
            } else {
                Check.due(method + " has a name of its own", METHODS.contains(method.getName()) ? 1 : 0, 0);
            }
        }
        Check.dueText("methods", methods.toString(), new TreeSet<>(METHODS).toString());
        Set<String> fields = new TreeSet<>();
        for (Field field : DebtorViews.class.getDeclaredFields()) {
            if (!Modifier.isPrivate(field.getModifiers())) {
                fields.add(field.getName());
            }
        }
        Check.dueText("constants", fields.toString(), new TreeSet<>(CONSTANTS).toString());
        Check.due("constructors", DebtorViews.class.getDeclaredConstructors().length, 1);
    }

    private static void innerClasses() {
        Class<?>[] inner = DebtorViews.class.getDeclaredClasses();
        Check.due("few classes", inner.length <= MOST_CLASSES ? 1 : 0, 1);
        fields(DebtorViews.class);
        for (Class<?> c : inner) {
            Check.due(c + " is static", Modifier.isStatic(c.getModifiers()) ? 1 : 0, 1);
            fields(c);
            for (Method method : c.getDeclaredMethods()) {
                boolean isNamesake = Modifier.isPrivate(method.getModifiers()) && METHODS.contains(method.getName());
                Check.due(method + " has a name of its own", isNamesake ? 1 : 0, 0);
                Check.due(method + " has few parameters", method.getParameterCount() <= MOST_PARAMETERS ? 1 : 0, 1);
            }
        }
    }

    private static void fields(Class<?> c) {
        int own = 0;
        for (Field field : c.getDeclaredFields()) {
            if (Modifier.isStatic(field.getModifiers())) {
                Check.due(field + " is final", Modifier.isFinal(field.getModifiers()) ? 1 : 0, 1);
            } else {
                own++;
            }
        }
        Check.due(c + " has few fields", own <= MOST_FIELDS ? 1 : 0, 1);
    }

    private static void words() throws IOException {
        Path root = Path.of(System.getProperty("debtorViews.root", "."));
        String source = Files.readString(root.resolve("src/main/java/DebtorViews.java"));
        String bare = source.replaceAll("(?s)/\\*.*?\\*/", "").replaceAll("//[^\\n]*", "");
        String code = bare.replaceAll("\"[^\"\\n]*\"", "\"\"").replaceAll("(case [^:;]*|default )->", "");
        for (String word : FORBIDDEN) {
            Check.due("the source has " + word, java.util.regex.Pattern.compile(word).matcher(code).find() ? 1 : 0, 0);
        }
        for (String line : code.split("\n")) {
            if (line.startsWith("import ")) {
                Check.due(line, line.matches("import " + IMPORTS + ";.*") ? 1 : 0, 1);
            }
        }
        Check.due("signs are 1 to 127", (int) bare.chars().filter(c -> c > 127).count(), 0);
        Check.due("the longest method is short", longestMethod(source.split("\n")) <= MOST_METHOD_LINES ? 1 : 0, 1);
    }

    /** A method ends at the first lone bracket that stands as deep as its head. */
    private static int longestMethod(String[] lines) {
        int longest = 0;
        for (int head = 0; head < lines.length; head++) {
            if (lines[head].matches("( {4}| {8})\\S.*\\) \\{")) {
                String end = lines[head].replaceAll("\\S.*", "") + "}";
                int last = head;
                while (last < lines.length && !lines[last].equals(end)) {
                    last++;
                }
                longest = Math.max(longest, last - head + 1);
            }
        }
        return longest;
    }

    /** Each method as often as one object can take it behind a full log and eight views. */
    private static void callsKeepToTheRoom() {
        com.sun.management.ThreadMXBean threads = (com.sun.management.ThreadMXBean) ManagementFactory.getThreadMXBean();
        String[] calls = {"put 0 0 1", "define", "drop 0", "set 0 1", "grant 1", "tick", "pay 0 1", "payAll", "found 0",
            "take 0", "restore 0", "undo", "append 32", "clearText", "count 5", "value 0 0 200", "change 199 3", "view 7 8",
            "kept 7", "ask 7 200 0", "ask 7 200 1", "ruin 7", "settled 2 9999", "needed", "since 7"};
        for (String call : calls) {
            String[] words = call.split(" ");
            int[] arguments = new int[words.length - 1];
            for (int i = 0; i < arguments.length; i++) {
                arguments[i] = Integer.parseInt(words[i + 1]);
            }
            Call repeated = new Call(words[0], arguments);
            long before = threads.getCurrentThreadAllocatedBytes();
            DebtorViews x = full();
            for (int time = 0; time < 200; time++) {
                made += repeated.on(x);
            }
            long bytes = threads.getCurrentThreadAllocatedBytes() - before;
            Check.due("200 times " + call + " take " + bytes + " bytes", bytes <= ROOM ? 1 : 0, 1);
        }
    }

    private static DebtorViews full() {
        DebtorViews x = new DebtorViews();
        for (String text : new String[] {"join 0-11", "sum a 0-11", "less 0 1", "less 2 0", "less 3 2", "less 4 3", "less 5 4",
            "less 6 5"}) {
            for (int i = 0; i < text.length(); i++) {
                made += x.append(text.charAt(i));
            }
            made += x.define();
        }
        for (int change = 0; change < 200; change++) {
            made += x.put(change % 2, change % 12, change % 100);
        }
        made += x.grant(999) + x.take(0) + x.take(1);
        return x;
    }
}
