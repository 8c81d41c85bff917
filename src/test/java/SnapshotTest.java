/** Promises 11 (take), 12 (restore) and 13 (undo). */
public final class SnapshotTest {
    public static void main(String[] args) {
        takeAndRestore();
        aSnapshotKeepsTheLog();
        aSnapshotKeepsItsValues();
        aSnapshotKeepsAFullLog();
        textSlotsAndHistoryStay();
        slotsAreTwo();
        slotsRefuse();
        undoGoesBack();
        undoBringsSlotsBack();
        historyIsFive();
        errorsAreNoActions();
        everyActionIsRecorded();
        Check.end("SnapshotTest");
    }

    private static Debtors busy() {
        Debtors x = new Debtors();
        Check.define(x, "sum a 0-5");
        Check.define(x, "join 3-7");
        Check.define(x, "less 0 1");
        Check.define(x, "count b 9-9");
        x.drop(3);
        x.put(0, 4, 5);
        x.put(1, 4, 6);
        x.set(Check.LIMIT, 1);
        x.grant(100);
        x.tick();
        x.found(2);
        x.pay(0, 2);
        return x;
    }

    private static void disturb(Debtors x) {
        x.put(1, 9, 9);
        x.put(0, 4, -1);
        Check.define(x, "most b 0-9");
        x.set(Check.RATE, 0);
        x.tick();
        x.payAll();
        x.set(Check.LIMIT, 2);
        x.set(Check.RATE, 1);
        x.put(0, 4, 7);
        x.tick();
        x.pay(0, 1);
        x.set(Check.RATE, 7);
        x.set(Check.RULE, 2);
        x.tick();
        x.drop(2);
        x.grant(100);
        x.found(1);
    }

    private static void takeAndRestore() {
        Debtors x = busy();
        Check.due("take(0)", x.take(0), 2);
        Sight before = x.sightOfState();
        disturb(x);
        x.clearText();
        Check.due("restore(0)", x.restore(0), 2);
        Check.same("restored", x.sightOfState(), before);
        disturb(x);
        x.clearText();
        Check.due("restore(0) again", x.restore(0), 2);
        Check.same("restored again", x.sightOfState(), before);
        x.put(0, 0, 1);
        Check.due("take(0) in place of it", x.take(0), 3);
        x.put(0, 0, 1);
        Check.due("restore(0)", x.restore(0), 3);
        Check.due("count(14)", x.count(14), 1);
    }

    private static void aSnapshotKeepsTheLog() {
        Debtors x = new Debtors();
        Check.define(x, "sum a 0-0");
        x.put(0, 0, 10);
        x.put(0, 0, 20);
        x.take(1);
        x.undo();
        x.undo();
        x.undo();
        Check.due("undo took the slot, too", x.restore(1), Check.ILLEGAL);
        x.put(0, 0, 10);
        x.put(0, 0, 20);
        x.take(1);
        x.take(0);
        x.restore(0);
        x.put(0, 0, 30);
        x.restore(1);
        x.put(0, 0, 40);
        Check.due("the log went on from the snapshot", x.value(0, 0, 3), 40);
        x.restore(0);
        Check.due("count(0)", x.count(0), 2);
        Check.due("value(0, 0, 2)", x.value(0, 0, 2), 20);
        Check.due("kept(0)", x.kept(0), 0);
    }

    private static void aSnapshotKeepsItsValues() {
        Debtors x = new Debtors();
        x.take(0);
        x.put(0, 0, 10);
        x.put(0, 1, 20);
        x.take(1);
        x.restore(0);
        x.put(1, 2, 30);
        x.put(1, 3, -1);
        x.restore(1);
        Check.due("value(0, 0, 2)", x.value(0, 0, 2), 10);
        Check.due("value(0, 1, 2)", x.value(0, 1, 2), 20);
        Check.due("value(1, 2, 2)", x.value(1, 2, 2), Check.NONE);
        x.undo();
        Check.due("value(1, 2, 2) behind undo", x.value(1, 2, 2), 30);
        Check.due("value(0, 0, 2) behind undo", x.value(0, 0, 2), Check.NONE);
        Check.due("change(1, 2) behind undo", x.change(1, 2), -1);
    }

    private static void aSnapshotKeepsAFullLog() {
        Debtors x = new Debtors();
        x.take(1);
        Check.putOften(x, 200, 1, 11);
        Check.due("take(0)", x.take(0), 200);
        Check.due("restore(1)", x.restore(1), 0);
        Check.due("restore(0)", x.restore(0), 200);
        Check.due("change(199, 2)", x.change(199, 2), 99);
        x.undo();
        x.undo();
        Check.due("count(0)", x.count(0), 200);
        Check.due("put", x.put(0, 0, 0), Check.CAPACITY);
    }

    private static void textSlotsAndHistoryStay() {
        Debtors x = new Debtors();
        Check.tell(x, "ab");
        x.take(0);
        x.put(0, 0, 1);
        x.take(1);
        Check.tell(x, "cd");
        Check.due("restore(0)", x.restore(0), 0);
        Check.due("the text stays", x.count(16), 4);
        Check.due("the slots stay", x.count(14), 2);
        Check.due("the history stays", x.count(15), 4);
        Check.due("restore(1)", x.restore(1), 1);
        Check.due("undo()", x.undo(), 4);
        Check.due("undo keeps the text", x.count(16), 4);
        Check.due("count(0)", x.count(0), 0);
    }

    private static void slotsAreTwo() {
        Debtors x = new Debtors();
        Check.due("count(14)", x.count(14), 0);
        x.put(0, 0, 1);
        Check.due("take(1)", x.take(1), 1);
        Check.due("count(14)", x.count(14), 1);
        Check.due("restore(0)", x.restore(0), Check.ILLEGAL);
        x.put(0, 0, 1);
        Check.due("take(0)", x.take(0), 2);
        Check.due("count(14)", x.count(14), 2);
        Check.due("restore(1)", x.restore(1), 1);
        Check.due("restore(0)", x.restore(0), 2);
    }

    private static void slotsRefuse() {
        Debtors x = new Debtors();
        int[] wrong = {-1, 2, Integer.MIN_VALUE, Integer.MAX_VALUE};
        for (int slot : wrong) {
            Check.due("take(" + slot + ")", x.take(slot), Check.INVALID);
            Check.due("restore(" + slot + ")", x.restore(slot), Check.INVALID);
        }
        Check.due("count(14)", x.count(14), 0);
        Check.due("count(15)", x.count(15), 0);
    }

    private static void undoGoesBack() {
        Debtors x = busy();
        Check.due("undo()", x.undo(), 4);
        Check.due("undo()", x.undo(), 3);
        Check.due("the bankrupt ones again", x.count(4), 0b110);
        Check.due("undo()", x.undo(), 2);
        Check.due("undo()", x.undo(), 1);
        Check.due("count(6)", x.count(6), 0);
        Check.due("undo()", x.undo(), 0);
        Check.due("count(19)", x.count(19), 30);
        Check.due("undo()", x.undo(), Check.ILLEGAL);
        Check.due("count(0)", x.count(0), 2);
        Check.due("put goes on", x.put(0, 0, 1), 2);
        Check.due("undo()", x.undo(), 0);
    }

    private static void undoBringsSlotsBack() {
        Debtors x = new Debtors();
        x.take(0);
        x.put(0, 0, 1);
        x.take(0);
        x.put(0, 0, 2);
        x.undo();
        Check.due("undo() of take", x.undo(), 2);
        Check.due("restore(0) of the earlier one", x.restore(0), 0);
        x.undo();
        x.undo();
        x.undo();
        Check.due("count(14)", x.count(14), 0);
        Check.due("count(15)", x.count(15), 0);
    }

    private static void historyIsFive() {
        Debtors x = new Debtors();
        for (int change = 0; change < 13; change++) {
            x.put(0, 0, change);
            Check.due("count(15)", x.count(15), Math.min(5, change + 1));
        }
        for (int left = 4; left >= 0; left--) {
            Check.due("undo()", x.undo(), left);
            Check.due("count(0)", x.count(0), 8 + left);
            Check.due("the latest value", x.value(0, 0, 8 + left), 7 + left);
        }
        Check.due("undo()", x.undo(), Check.ILLEGAL);
    }

    private static void errorsAreNoActions() {
        Debtors x = busy();
        Sight before = x.sight();
        x.put(0, 12, 1);
        x.define();
        x.drop(0);
        x.set(9, 9);
        x.grant(0);
        x.pay(9, 1);
        x.found(0);
        x.take(2);
        x.restore(0);
        Check.same("the object", x.sight(), before);
        Check.due("undo() of the last action", x.undo(), 4);
        Check.due("which was a payment", x.view(0, 9), 0);
    }

    private static void everyActionIsRecorded() {
        Debtors x = new Debtors();
        Check.define(x, "sum a 0-0");
        x.grant(9);
        recorded(x, "put", x.count(15), x.put(0, 0, -1));
        recorded(x, "set", x.count(15), x.set(Check.RATE, 1));
        recorded(x, "grant", x.count(15), x.grant(1));
        recorded(x, "tick", x.count(15), x.tick());
        recorded(x, "pay", x.count(15), x.pay(0, 1));
        recorded(x, "payAll", x.count(15), x.payAll());
        recorded(x, "take", x.count(15), x.take(0));
        x.take(0);
        recorded(x, "restore", x.count(15), x.restore(0));
        recorded(x, "define", x.count(15), Check.define(x, "sum a 0-0"));
        recorded(x, "drop", x.count(15), x.drop(0));
        foundIsRecorded();
    }

    private static void recorded(Debtors x, String call, int statesBefore, int answer) {
        Check.due(call + " succeeds", answer >= 0 ? 1 : 0, 1);
        Check.due("count(15) behind " + call, x.count(15), statesBefore + 1);
        Check.due("undo() of " + call, x.undo(), statesBefore);
    }

    private static void foundIsRecorded() {
        Debtors x = new Debtors();
        x.grant(9);
        Check.define(x, "sum a 0-0");
        x.put(0, 0, 3);
        x.set(Check.LIMIT, 0);
        x.tick();
        x.found(0);
        Check.due("count(4)", x.count(4), 0);
        Check.due("undo() of found", x.undo(), 4);
        Check.due("count(4)", x.count(4), 1);
        Check.due("undo() of tick", x.undo(), 3);
        Check.due("count(4)", x.count(4), 0);
    }
}
