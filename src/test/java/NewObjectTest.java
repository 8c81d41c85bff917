/** Promise 1. */
public final class NewObjectTest {
    public static void main(String[] args) {
        Debtors x = new Debtors();
        for (int what = 0; what <= 16; what++) {
            Check.due("count(" + what + ")", x.count(what), 0);
        }
        int[] settings = {1, 2, 30, 5, 0, 0};
        for (int what = 0; what < settings.length; what++) {
            Check.due("count(" + (17 + what) + ")", x.count(17 + what), settings[what]);
        }
        for (int key = 0; key < 12; key++) {
            Check.due("value(0, key, 0)", x.value(0, key, 0), Check.NONE);
            Check.due("value(1, key, 0)", x.value(1, key, 0), Check.NONE);
        }
        Check.due("undo()", x.undo(), Check.ILLEGAL);
        Check.due("restore(0)", x.restore(0), Check.ILLEGAL);
        Check.due("restore(1)", x.restore(1), Check.ILLEGAL);
        Check.due("define()", x.define(), -1000);
        Check.due("needed()", x.needed(), 0);
        twoObjectsShareNothing();
        constants();
        Check.end("NewObjectTest");
    }

    private static void twoObjectsShareNothing() {
        Debtors x = new Debtors();
        Debtors y = new Debtors();
        Check.due("put", x.put(0, 0, 1), 0);
        Check.due("put into the other one", y.put(0, 0, 9), 0);
        Check.tell(x, "sum");
        Check.tell(y, "join 0-1");
        Check.due("define of the other one", y.define(), 0);
        Check.tell(x, " a 0-1");
        Check.due("define", x.define(), 0);
        x.grant(5);
        x.set(Check.RATE, 9);
        x.take(1);
        Check.due("value", x.value(0, 0, 1), 1);
        Check.due("value in the other one", y.value(0, 0, 1), 9);
        Check.due("kind", x.view(0, 0), 0);
        Check.due("kind in the other one", y.view(0, 0), 3);
        Check.due("treasury of the other one", y.count(6), 0);
        Check.due("rate of the other one", y.count(17), 1);
        Check.due("snapshots of the other one", y.count(14), 0);
        Check.due("history of the other one", y.count(15), 2);
        Check.due("undo in the other one", y.undo(), 1);
        Check.due("views", x.count(1), 1);
    }

    private static void constants() {
        Check.due("INVALID_ARGUMENT", DebtorViews.INVALID_ARGUMENT, -100000001);
        Check.due("ILLEGAL_STATE", DebtorViews.ILLEGAL_STATE, -100000002);
        Check.due("CAPACITY_EXCEEDED", DebtorViews.CAPACITY_EXCEEDED, -100000003);
        Check.due("NONE", DebtorViews.NONE, -100000009);
    }
}
