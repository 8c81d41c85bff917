import java.io.IOException;
import java.lang.reflect.Method;
import java.lang.reflect.Modifier;
import java.nio.file.Files;
import java.nio.file.Path;
import java.util.regex.Matcher;
import java.util.regex.Pattern;

/** README.md: each call of an example answers what is said behind it, and each method and constant is named. */
public final class ReadmeTest {
    private static final String NEW = "DebtorViews x = new DebtorViews();";
    private static final Pattern BLOCK = Pattern.compile("```java\n(.*?)```", Pattern.DOTALL);
    private static final Pattern CALL = Pattern.compile("x\\.(\\w+)\\((.*)\\); +// (-?\\w+)(:? .*)?");
    private static final Pattern DEFINITION = Pattern.compile("define\\(x, \"(.*)\"\\); +// (-?\\w+)(:? .*)?");

    private static Debtors x;

    private ReadmeTest() {
    }

    public static void main(String[] args) throws IOException {
        String page = Files.readString(Path.of(System.getProperty("debtorViews.root", ".")).resolve("README.md"));
        Matcher blocks = BLOCK.matcher(page);
        while (blocks.find()) {
            if (blocks.group(1).startsWith(NEW)) {
                for (String line : blocks.group(1).split("\n")) {
                    go(line);
                }
            }
        }
        for (Method method : DebtorViews.class.getDeclaredMethods()) {
            if (Modifier.isPublic(method.getModifiers())) {
                Check.due("README names " + method.getName(), page.contains("| `" + method.getName() + "(") ? 1 : 0, 1);
            }
        }
        for (String constant : new String[] {"INVALID_ARGUMENT (-100000001)", "ILLEGAL_STATE (-100000002)",
            "CAPACITY_EXCEEDED (-100000003)", "NONE (-100000009)"}) {
            Check.due("README names " + constant, page.contains(constant) ? 1 : 0, 1);
        }
        Check.end("ReadmeTest");
    }

    private static void go(String line) {
        Matcher call = CALL.matcher(line);
        Matcher definition = DEFINITION.matcher(line);
        if (line.equals(NEW)) {
            x = new Debtors();
        } else if (call.matches()) {
            Check.due(line, x.call(call.group(1), arguments(call.group(2))), number(call.group(3)));
        } else if (definition.matches()) {
            Check.due(line, Check.define(x, definition.group(1)), number(definition.group(2)));
        } else {
            Check.fail("an example that cannot be read: " + line);
        }
    }

    private static int[] arguments(String list) {
        String[] words = list.isEmpty() ? new String[0] : list.split(", ");
        int[] arguments = new int[words.length];
        for (int i = 0; i < arguments.length; i++) {
            arguments[i] = words[i].startsWith("'") ? words[i].charAt(1) : Integer.parseInt(words[i]);
        }
        return arguments;
    }

    private static int number(String word) {
        return switch (word) {
            case "INVALID_ARGUMENT" -> Check.INVALID;
            case "ILLEGAL_STATE" -> Check.ILLEGAL;
            case "CAPACITY_EXCEEDED" -> Check.CAPACITY;
            case "NONE" -> Check.NONE;
            default -> Integer.parseInt(word);
        };
    }
}
