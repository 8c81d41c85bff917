/** Promises 5 (set) and 16 (count). */
public final class SettingsTest {
    public static void main(String[] args) {
        setEachSetting();
        setRefuses();
        countOfAll();
        countRefuses();
        Check.end("SettingsTest");
    }

    private static void setEachSetting() {
        int[] least = {0, 1, 0, 0, 0, 0};
        int[] most = {20, 20, 500, 100, 1, 2};
        int[] first = {1, 2, 30, 5, 0, 0};
        for (int what = 0; what < 6; what++) {
            Debtors x = new Debtors();
            Check.due("set(" + what + ", least)", x.set(what, least[what]), first[what]);
            Check.due("set(" + what + ", most)", x.set(what, most[what]), least[what]);
            Check.due("set(" + what + ", most) again", x.set(what, most[what]), most[what]);
            Check.due("set is an action", x.count(15), 3);
            Check.due("set(" + what + ", below)", x.set(what, least[what] - 1), Check.INVALID);
            Check.due("set(" + what + ", above)", x.set(what, most[what] + 1), Check.INVALID);
            for (int other = 0; other < 6; other++) {
                Check.due("count(" + (17 + other) + ")", x.count(17 + other), other == what ? most[what] : first[other]);
            }
            Check.due("an error is no action", x.count(15), 3);
        }
    }

    private static void setRefuses() {
        Debtors x = new Debtors();
        Check.due("set(-1, 1)", x.set(-1, 1), Check.INVALID);
        Check.due("set(6, 1)", x.set(6, 1), Check.INVALID);
        Check.due("set(MAX, 1)", x.set(Integer.MAX_VALUE, 1), Check.INVALID);
        Check.due("set(0, MIN)", x.set(0, Integer.MIN_VALUE), Check.INVALID);
        Check.due("set(2, MAX)", x.set(2, Integer.MAX_VALUE), Check.INVALID);
    }

    private static void countOfAll() {
        Debtors x = new Debtors();
        Check.define(x, "sum a 0-0");
        Check.define(x, "sum a 1-1");
        Check.define(x, "join 1-2");
        Check.define(x, "less 2 0");
        Check.define(x, "sum b 5-5");
        x.drop(1);
        x.set(Check.LIMIT, 1);
        x.put(0, 0, 1);
        x.put(1, 1, 1);
        x.put(0, 0, 1);
        x.grant(60);
        x.tick();
        x.pay(2, 4);
        x.found(3);
        x.put(1, 5, 1);
        x.take(1);
        Check.tell(x, "xyz");
        // Founding "less 2 0" costs 3 * 2 * (2 + 1); 3 of the 4 coins for view 2 are too few for its arrear.
        int[] due = {4, 4, 5, 0b11101, 0b00001, 0b10100, 46, 65, 1, 0, 18, 5, 0, 1, 1, 5, 3, 1, 2, 1, 5, 0, 0};
        for (int what = 0; what < due.length; what++) {
            Check.due("count(" + what + ")", x.count(what), due[what]);
        }
        Check.due("in is what is there and what is spent", x.count(7), x.count(6) + x.count(8) + x.count(9) + x.count(10));
    }

    private static void countRefuses() {
        Debtors x = new Debtors();
        Check.due("count(-1)", x.count(-1), Check.INVALID);
        Check.due("count(23)", x.count(23), Check.INVALID);
        Check.due("count(MIN)", x.count(Integer.MIN_VALUE), Check.INVALID);
        Check.due("count(MAX)", x.count(Integer.MAX_VALUE), Check.INVALID);
    }
}
