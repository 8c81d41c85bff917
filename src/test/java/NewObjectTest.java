/** Promise 1. */
public final class NewObjectTest {
    public static void main(String[] args) {
        DebtorViews x = new DebtorViews();
        for (int what = 0; what <= 16; what++) {
            Check.due("count(" + what + ")", x.count(what), 0);
        }
        int[] settings = {1, 2, 30, 5, 0, 0};
        for (int what = 0; what < settings.length; what++) {
            Check.due("count(" + (17 + what) + ")", x.count(17 + what), settings[what]);
        }
        for (int key = 0; key < 12; key++) {
            Check.due("value(0, key, 0)", x.value(0, key, 0), Check.NONE);
            Check.due("value(1, key, 0)", x.value(1, key, 0), Check.NONE);
        }
        Check.due("undo()", x.undo(), Check.ILLEGAL);
        Check.due("restore(0)", x.restore(0), Check.ILLEGAL);
        Check.due("restore(1)", x.restore(1), Check.ILLEGAL);
        Check.due("define()", x.define(), -1000);
        Check.due("needed()", x.needed(), 0);
        twoObjectsShareNothing();
        Check.end("NewObjectTest");
    }

    private static void twoObjectsShareNothing() {
        DebtorViews x = new DebtorViews();
        DebtorViews y = new DebtorViews();
        x.put(0, 0, 1);
        x.grant(5);
        x.set(Check.RATE, 9);
        Check.define(x, "sum a 0-1");
        Check.tell(x, "join");
        Check.dueText("the other object", Check.sight(y), Check.sight(new DebtorViews()));
    }
}
