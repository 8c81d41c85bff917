import java.util.HashMap;
import java.util.Map;
import java.util.regex.Matcher;
import java.util.regex.Pattern;

/**
 * Runs of calls in words, each run on a new object: statements in lines or between semicolons, each with the answer
 * that is due.
 *
 * <pre>
 * put 0 3 7 = 0          a call
 * 5 times tick = 0       a call, several times
 * tell "sum a"           a call of append for each sign
 * view "sum a 0-5" = 0   the same, and a call of define; fault 4 is -1004
 * </pre>
 */
final class Script {
    private static final Pattern STATEMENT =
        Pattern.compile("(?:(\\d+) times )?([a-zA-Z]+)((?: -?\\w+)*)(?: \"([^\"]*)\")?(?: = (.+))?");
    private static final Map<String, Integer> NAMES = new HashMap<>();

    static {
        NAMES.put("INVALID", Check.INVALID);
        NAMES.put("ILLEGAL", Check.ILLEGAL);
        NAMES.put("FULL", Check.CAPACITY);
        NAMES.put("NONE", Check.NONE);
        NAMES.put("MIN", Integer.MIN_VALUE);
        NAMES.put("MAX", Integer.MAX_VALUE);
        NAMES.put("rate", Check.RATE);
        NAMES.put("price", Check.PRICE);
        NAMES.put("limit", Check.LIMIT);
        NAMES.put("income", Check.INCOME);
        NAMES.put("order", Check.ORDER);
        NAMES.put("rule", Check.RULE);
    }

    private Script() {
    }

    /** What the document says, and runs that would go otherwise if it did not hold. */
    static void sentence(String words, String... runs) {
        for (String run : runs) {
            behind(words, run);
        }
    }

    /** Returns the object behind a run. */
    static Debtors behind(String words, String run) {
        Debtors x = new Debtors();
        StringBuilder soFar = new StringBuilder();
        for (String line : run.split("[;\n]")) {
            String statement = line.trim();
            if (!statement.isEmpty()) {
                soFar.append(statement).append("; ");
                go(x, statement, "\"" + words + "\": " + soFar);
            }
        }
        return x;
    }

    private static void go(Debtors x, String statement, String label) {
        Matcher parts = STATEMENT.matcher(statement);
        if (!parts.matches()) {
            throw new IllegalArgumentException(statement);
        }
        int times = parts.group(1) == null ? 1 : Integer.parseInt(parts.group(1));
        for (int time = 0; time < times; time++) {
            int answer = answer(x, parts.group(2), parts.group(3).trim(), parts.group(4));
            if (parts.group(5) != null) {
                Check.due(label, answer, number(parts.group(5)));
            }
        }
    }

    private static int answer(Debtors x, String method, String numbers, String text) {
        if (text != null) {
            Check.tell(x, text);
            return method.equals("view") ? x.define() : text.length();
        }
        String[] words = numbers.isEmpty() ? new String[0] : numbers.split(" ");
        int[] arguments = new int[words.length];
        for (int i = 0; i < arguments.length; i++) {
            arguments[i] = number(words[i]);
        }
        return x.call(method, arguments);
    }

    private static int number(String words) {
        if (words.startsWith("fault ")) {
            return -1000 - Integer.parseInt(words.substring(6));
        }
        if (words.startsWith("0b")) {
            return Integer.parseInt(words.substring(2), 2);
        }
        return NAMES.containsKey(words) ? NAMES.get(words) : Integer.parseInt(words);
    }
}
