/** Promise 3 and "Text": texts of views with a few signs changed, each answer of define compared with the model's. */
public final class TextModelTest {
    private static final int OBJECTS = 4000;
    private static final int MOST_CALLS_OF_A_TEXT = 42;
    private static final String[] FORMS = {
        "sum a 0-5", "sum b3-11", "count a 2-2", "count  b 0 - 11", "most a 10-11", "most b 4-6", "join 0-11", "join3-4",
        " less 0 1", "less 1 0 ", "less 10 2", "sum a 0-99", "join 12-7", "less 1 1", "most b 11 - 0", "count a 00-100"};
    private static final String SIGNS = "ab sumcotjinle0123459-- AZSz`{/:@[~!,._\t\n\u0001\u001f\u007f\u0080\u00a0\u00e9\u00ff";

    private static long seed = 20261120L;
    private static Debtors x;
    private static Model m;

    private TextModelTest() {
    }

    public static void main(String[] args) {
        for (int object = 0; object < OBJECTS; object++) {
            x = Debtors.unwatched();
            m = new Model();
            define("sum a 0-0");
            define("join 1-1");
            while (x.left() >= MOST_CALLS_OF_A_TEXT) {
                define(changed(FORMS[next(FORMS.length)]));
            }
        }
        Check.end("TextModelTest");
    }

    /** A fixed row of numbers, so that each run of the test is the same. */
    private static int next(int bound) {
        seed = seed * 6364136223846793005L + 1442695040888963407L;
        return (int) ((seed >>> 33) % bound);
    }

    private static String changed(String form) {
        StringBuilder text = new StringBuilder(form);
        for (int changes = next(4); changes > 0; changes--) {
            int index = next(text.length());
            char sign = SIGNS.charAt(next(SIGNS.length()));
            switch (next(5)) {
                case 0: text.setCharAt(index, sign); break;
                case 1: text.insert(index, sign); break;
                case 2: text.append(sign); break;
                case 3: text.insert(index, " ".repeat(1 + next(12))); break;
                default: text.setLength(Math.max(1, index)); break;
            }
        }
        if (next(6) == 0) {
            fill(text);
        }
        text.setLength(Math.min(text.length(), 40));
        return text.toString();
    }

    /** The last sign of a full text is a boundary that chance does not find. */
    private static void fill(StringBuilder text) {
        int place = next(text.length() + 1);
        if (text.length() < 40) {
            text.insert(place, " ".repeat(40 - text.length()));
        }
    }

    private static void define(String text) {
        for (int i = 0; i < text.length(); i++) {
            Check.due("append", x.append(text.charAt(i)), m.append(text.charAt(i)));
        }
        Check.due("define of \"" + text + "\"", x.define(), m.define());
        Check.due("clearText behind \"" + text + "\"", x.clearText(), m.clearText());
    }
}
