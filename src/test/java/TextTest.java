/** Promises 3 (define), 14 (append) and 15 (clearText). */
public final class TextTest {
    public static void main(String[] args) {
        appendAndClear();
        textsThatAreAllowed();
        faults();
        wrongKeysAndViews();
        errorsKeepTheText();
        eightViews();
        Check.end("TextTest");
    }

    private static void appendAndClear() {
        Debtors x = new Debtors();
        int[] wrong = {0, -1, 256, Integer.MIN_VALUE, Integer.MAX_VALUE};
        for (int character : wrong) {
            Check.due("append(" + character + ")", x.append(character), Check.INVALID);
        }
        Check.due("append(1)", x.append(1), 1);
        Check.due("append(255)", x.append(255), 2);
        Check.due("count(16)", x.count(16), 2);
        Check.due("clearText()", x.clearText(), 2);
        Check.due("clearText() again", x.clearText(), 0);
        for (int length = 1; length <= 40; length++) {
            Check.due("append " + length, x.append(' '), length);
        }
        Check.due("append 41", x.append(' '), Check.CAPACITY);
        Check.due("an argument goes ahead of the room", x.append(0), Check.INVALID);
        Check.due("count(16)", x.count(16), 40);
        Check.due("no actions", x.count(15), 0);
        Check.due("the spaces' fault", x.define(), -1040);
        Check.due("clearText()", x.clearText(), 40);
    }

    private static void textsThatAreAllowed() {
        form("sum a 0-11", 0, 0, 0, 11);
        form("sum b 0-0", 0, 1, 0, 0);
        form("count a 11-11", 1, 0, 11, 11);
        form("count b 10-11", 1, 1, 10, 11);
        form("most a 3-9", 2, 0, 3, 9);
        form("most b9-10", 2, 1, 9, 10);
        form("join 0-11", 3, Check.NONE, 0, 11);
        form("join2-3", 3, Check.NONE, 2, 3);
        form("   join   2   -   3          ", 3, Check.NONE, 2, 3);
        form("sum b                              1-  2", 0, 1, 1, 2);
        form("less 0 1", 4, Check.NONE, 0, 1);
        form("less1 0", 4, Check.NONE, 1, 0);
    }

    private static void form(String text, int kind, int table, int first, int last) {
        Debtors x = new Debtors();
        Check.define(x, "sum a 0-0");
        Check.define(x, "sum b 0-0");
        Check.due(text, Check.define(x, text), 2);
        Check.due(text + ": kind", x.view(2, 0), kind);
        Check.due(text + ": table", x.view(2, 1), table);
        Check.due(text + ": first", x.view(2, 2), first);
        Check.due(text + ": last", x.view(2, 3), last);
        Check.due(text + ": the text is empty then", x.count(16), 0);
        Check.due(text + ": define is an action", x.count(15), 3);
    }

    private static void faults() {
        String[] texts = {"", "  ", "s", "summ a 0-1", "suma 0-1", "SUM a 0-1", "1 a 0-1", "- a 0-1", "sum", "sum ",
            "sum c 0-1", "sum ab 0-1", "sum A 0-1", "sum 0-1", "sum - 0-1", "sum a", "sum a -1", "sum a x-1",
            "sum a 0", "sum a 0 1", "sum a 0+1", "sum a 0--1", "sum a 0-", "sum a 0-b", "sum a 00-1", "sum a 01-2",
            "sum a 1-02", "sum a 100-2", "sum a 1-100", "sum a 1-2 3", "sum a 1-2-", "sum a 1-2a", "sum a 1-2 ",
            "join a 0-1", "join 0 1", "join", "join 5", "joins 0-1", "less", "less 0", "less 0 ", "less 0-1", "less 01",
            "less 10", "less a 1", "less 0 00", "less 0 1 2", "count b 0-1.", "most", "most b 0 - 1\t", "\tmost b 0-1",
            "less 0,1", "most b\u00a00-1", "sum a 0 - - 1", "sum a 12-5 x", "less 8 8 8",
            "sumz a 0-1", "zsum a 0-1", "sum az 0-1", "sum` a 0-1", "sum{ a 0-1", "sum a 0/-1", "sum a 0:-1", "sum a 9-9:",
            "sum\u00e9 a 0-1", "sum a 0-1sum b 0-1"};
        int[] due = {0, 2, 0, 0, 0, 0, 0, 0, 3, 4,
            4, 4, 4, 4, 4, 5, 6, 6,
            7, 8, 7, 8, 8, 8, 6, 6,
            8, 6, 8, 10, 9, 9, -1,
            5, 7, 4, 6, 0, 4, 6, 7, 6, 5,
            7, 5, 7, 9, 11, 4, 12, 0,
            6, 6, 10, 11, 9,
            0, 0, 4, 3, 3, 7, 7, 9,
            3, 9};
        for (int i = 0; i < texts.length; i++) {
            Debtors x = new Debtors();
            int want = due[i] < 0 ? 0 : -1000 - due[i];
            Check.due("define() of \"" + texts[i] + "\"", Check.define(x, texts[i]), want);
            Check.due("count(2)", x.count(2), want == 0 ? 1 : 0);
        }
    }

    private static void wrongKeysAndViews() {
        Debtors x = new Debtors();
        Check.define(x, "sum a 0-0");
        Check.define(x, "sum a 1-1");
        Check.define(x, "sum a 2-2");
        x.drop(1);
        String[] texts = {"sum a 0-12", "sum a 12-12", "count b 99-99", "most a 12-0", "join 0-12", "join 5-4",
            "sum b 11-10", "less 0 0", "less 0 1", "less 1 2", "less 0 3", "less 3 0", "less 99 0", "less 2 2", "less 1 1"};
        for (String text : texts) {
            Check.due("define() of \"" + text + "\"", Check.define(x, text), Check.INVALID);
        }
        Check.due("count(2)", x.count(2), 3);
        Check.due("define() of a bankrupt one", Check.define(x, "less 2 0"), 3);
    }

    private static void errorsKeepTheText() {
        Debtors x = new Debtors();
        Check.tell(x, "join 0-1");
        Check.due("define() is too long", x.append('2'), 9);
        Check.due("define()", x.define(), Check.INVALID);
        Check.due("count(16)", x.count(16), 9);
        Check.due("count(15)", x.count(15), 0);
        x.append('0');
        Check.due("define() again", x.define(), -1007);
        Check.due("count(16)", x.count(16), 10);
        Check.due("define() behind a fault", Check.define(x, "join 0-1"), 0);
    }

    private static void eightViews() {
        Debtors x = new Debtors();
        for (int view = 0; view < 8; view++) {
            Check.due("define() " + view, Check.define(x, "sum a 0-" + view), view);
        }
        Check.due("define() 8", Check.define(x, "join 0-0"), Check.CAPACITY);
        x.drop(3);
        Check.due("define() 8 behind a drop", x.define(), Check.CAPACITY);
        Check.due("the text stays", x.count(16), 8);
        Check.due("a wrong key goes ahead of the room", Check.define(x, "join 1-0"), Check.INVALID);
        Check.due("no such view goes ahead of the room", Check.define(x, "less 3 0"), Check.INVALID);
        Check.due("a fault goes ahead of the room", Check.define(x, "join 1-0-"), -1008);
    }
}
