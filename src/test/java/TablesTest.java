/** Promises 2 (put), 17 (value) and 18 (change). */
public final class TablesTest {
    public static void main(String[] args) {
        putNumbersTheChanges();
        putRefuses();
        putIsFullAfter200();
        valueAtPlaces();
        valueRefuses();
        changeTells();
        changeTellsWhomItConcerns();
        changeRefuses();
        Check.end("TablesTest");
    }

    private static void putNumbersTheChanges() {
        Debtors x = new Debtors();
        Check.due("put(0, 0, 0)", x.put(0, 0, 0), 0);
        Check.due("put(1, 11, 99)", x.put(1, 11, 99), 1);
        Check.due("put(1, 11, -1)", x.put(1, 11, -1), 2);
        Check.due("put of what is there already", x.put(1, 11, -1), 3);
        Check.due("count(0)", x.count(0), 4);
        Check.due("put is an action", x.count(15), 4);
    }

    private static void putRefuses() {
        Debtors x = new Debtors();
        int[][] wrong = {{-1, 0, 0}, {2, 0, 0}, {0, -1, 0}, {0, 12, 0}, {0, 0, -2}, {0, 0, 100},
            {Integer.MIN_VALUE, 0, 0}, {0, Integer.MAX_VALUE, 0}, {0, Integer.MIN_VALUE, 0}, {1, 1, Integer.MAX_VALUE}};
        for (int[] w : wrong) {
            Check.due("put(" + w[0] + ", " + w[1] + ", " + w[2] + ")", x.put(w[0], w[1], w[2]), Check.INVALID);
        }
        Check.due("count(0)", x.count(0), 0);
        Check.due("count(15)", x.count(15), 0);
    }

    private static void putIsFullAfter200() {
        Debtors x = new Debtors();
        for (int change = 0; change < 200; change++) {
            Check.due("put " + change, x.put(change % 2, change % 12, change % 100), change);
        }
        Check.due("put 200", x.put(0, 0, 0), Check.CAPACITY);
        Check.due("an argument goes ahead of the room", x.put(2, 0, 0), Check.INVALID);
        Check.due("count(0)", x.count(0), 200);
        Check.due("change(199, 2)", x.change(199, 2), 99);
        Check.due("value(1, 7, 200)", x.value(1, 7, 200), 99);
        Check.due("value(1, 7, 199)", x.value(1, 7, 199), 87);
        x.undo();
        Check.due("put after undo", x.put(1, 7, 3), 199);
    }

    private static void valueAtPlaces() {
        Debtors x = new Debtors();
        x.put(0, 3, 7);
        x.put(1, 3, 8);
        x.put(0, 3, 0);
        x.put(0, 3, -1);
        Check.due("value(0, 3, 0)", x.value(0, 3, 0), Check.NONE);
        Check.due("value(0, 3, 1)", x.value(0, 3, 1), 7);
        Check.due("value(0, 3, 2)", x.value(0, 3, 2), 7);
        Check.due("value(0, 3, 3)", x.value(0, 3, 3), 0);
        Check.due("value(0, 3, 4)", x.value(0, 3, 4), Check.NONE);
        Check.due("value(1, 3, 1)", x.value(1, 3, 1), Check.NONE);
        Check.due("value(1, 3, 4)", x.value(1, 3, 4), 8);
        Check.due("value(0, 2, 4)", x.value(0, 2, 4), Check.NONE);
    }

    private static void valueRefuses() {
        Debtors x = new Debtors();
        x.put(0, 0, 1);
        int[][] wrong = {{-1, 0, 0}, {2, 0, 0}, {0, -1, 0}, {0, 12, 0}, {0, 0, -1}, {0, 0, 2},
            {Integer.MAX_VALUE, 0, 0}, {0, Integer.MIN_VALUE, 0}, {0, 0, Integer.MAX_VALUE}};
        for (int[] w : wrong) {
            Check.due("value(" + w[0] + ", " + w[1] + ", " + w[2] + ")", x.value(w[0], w[1], w[2]), Check.INVALID);
        }
    }

    private static void changeTells() {
        Debtors x = new Debtors();
        x.put(1, 11, 99);
        x.put(0, 4, -1);
        int[][] due = {{1, 11, 99, 0}, {0, 4, -1, 0}};
        for (int change = 0; change < 2; change++) {
            for (int what = 0; what < 4; what++) {
                Check.due("change(" + change + ", " + what + ")", x.change(change, what), due[change][what]);
            }
        }
    }

    private static void changeTellsWhomItConcerns() {
        Debtors x = new Debtors();
        x.put(0, 2, 1);
        x.put(1, 2, 1);
        x.put(0, 5, 1);
        Check.define(x, "sum a 0-2");
        Check.define(x, "count b 2-11");
        Check.define(x, "most a 5-5");
        Check.define(x, "join 3-6");
        Check.define(x, "less 1 3");
        Check.define(x, "less 0 1");
        Check.define(x, "less 4 2");
        Check.due("change(0, 3)", x.change(0, 3), 0b0100001);
        Check.due("change(1, 3)", x.change(1, 3), 0b1110010);
        Check.due("change(2, 3)", x.change(2, 3), 0b1011100);
        x.drop(6);
        x.set(Check.LIMIT, 0);
        x.put(1, 4, 1);
        x.tick();
        Check.due("the bankrupt ones", x.count(4), 0b0111010);
        Check.due("a bankrupt view is concerned, a dropped one is none", x.change(1, 3), 0b0110010);
    }

    private static void changeRefuses() {
        Debtors x = new Debtors();
        Check.due("change(0, 0)", x.change(0, 0), Check.INVALID);
        x.put(0, 0, 1);
        int[][] wrong = {{-1, 0}, {1, 0}, {0, -1}, {0, 4}, {Integer.MAX_VALUE, 0}, {0, Integer.MIN_VALUE}};
        for (int[] w : wrong) {
            Check.due("change(" + w[0] + ", " + w[1] + ")", x.change(w[0], w[1]), Check.INVALID);
        }
    }
}
