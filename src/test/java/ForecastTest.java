/** Promises 22 (ruin), 23 (settled) and 24 (needed). */
public final class ForecastTest {
    public static void main(String[] args) {
        ruinCountsTicks();
        ruinComesTrue();
        ruinRefuses();
        settledByRules();
        settledByOrder();
        settledRefuses();
        neededIsEnough();
        Check.end("ForecastTest");
    }

    private static void ruinCountsTicks() {
        Debtors x = new Debtors();
        Check.define(x, "sum a 0-0");
        Check.due("ruin(0) without arrears", x.ruin(0), Check.NONE);
        x.put(0, 0, 1);
        Check.due("ruin(0) by 1 above 30", x.ruin(0), 31);
        x.put(0, 0, 1);
        Check.due("ruin(0) by 2 above 30", x.ruin(0), 16);
        x.set(Check.LIMIT, 500);
        Check.due("ruin(0) by 2 above 500", x.ruin(0), 251);
        x.set(Check.RATE, 0);
        Check.due("ruin(0) without interest", x.ruin(0), Check.NONE);
        x.set(Check.RATE, 20);
        x.set(Check.LIMIT, 39);
        Check.due("ruin(0) at once", x.ruin(0), 1);
        x.set(Check.LIMIT, 40);
        Check.due("ruin(0) at the limit", x.ruin(0), 2);
        x.tick();
        Check.due("ruin(0) with a debt", x.ruin(0), 1);
        x.set(Check.RATE, 0);
        Check.due("ruin(0) with a debt at the limit that does not grow", x.ruin(0), Check.NONE);
        x.set(Check.LIMIT, 39);
        Check.due("ruin(0) with a debt above the limit that does not grow", x.ruin(0), 1);
    }

    private static void ruinComesTrue() {
        Debtors x = new Debtors();
        Check.define(x, "join 0-2");
        x.put(0, 0, 1);
        x.put(1, 2, 1);
        x.put(1, 3, 1);
        x.set(Check.RATE, 3);
        Check.grant(x, 9999);
        x.set(Check.INCOME, 100);
        Check.due("ruin(0) however full the treasury", x.ruin(0), 6);
        x.set(Check.INCOME, 0);
        for (int left = 6; left > 1; left--) {
            Check.due("ruin(0)", x.ruin(0), left);
            Check.due("tick()", x.tick(), 0);
        }
        Check.due("tick()", x.tick(), 1);
    }

    private static void ruinRefuses() {
        Debtors x = new Debtors();
        Check.due("ruin(0)", x.ruin(0), Check.INVALID);
        Check.define(x, "sum a 0-0");
        Check.due("ruin(-1)", x.ruin(-1), Check.INVALID);
        Check.due("ruin(1)", x.ruin(1), Check.INVALID);
        Check.due("ruin(MAX)", x.ruin(Integer.MAX_VALUE), Check.INVALID);
        x.set(Check.LIMIT, 0);
        x.put(0, 0, 1);
        x.tick();
        Check.due("ruin(0) of a bankrupt one", x.ruin(0), Check.ILLEGAL);
    }

    /** Views 0 to 3 need 10 (a debt of 4), 6 (of 2), 7 (of 5; no arrears) and nothing; view 4 is bankrupt. */
    private static Debtors debtors() {
        Debtors x = new Debtors();
        Check.define(x, "sum a 0-0");
        Check.define(x, "join 1-1");
        Check.define(x, "sum a 2-2");
        Check.define(x, "sum a 3-3");
        Check.define(x, "sum a 4-4");
        Check.putOften(x, 7, 0, 2);
        Check.putOften(x, 30, 0, 4);
        x.set(Check.LIMIT, 29);
        x.set(Check.INCOME, 14);
        x.tick();
        x.set(Check.ORDER, 1);
        x.pay(2, 14);
        Check.putOften(x, 2, 0, 0);
        Check.putOften(x, 1, 1, 1);
        x.set(Check.INCOME, 0);
        x.tick();
        x.tick();
        Check.putOften(x, 1, 0, 0);
        x.set(Check.ORDER, 0);
        return x;
    }

    private static void settledByRules() {
        Debtors x = debtors();
        Check.due("needs", x.view(0, 8) * 10000 + x.view(1, 8) * 100 + x.view(2, 8), 100607);
        Check.due("debts", x.view(0, 7) * 10000 + x.view(1, 7) * 100 + x.view(2, 7), 40207);
        Check.due("the treasury", x.count(6), 0);
        int[][] due = {
            {0, 1, 0b1000}, {0, 9, 0b1000}, {0, 10, 0b1001}, {0, 16, 0b1011}, {0, 22, 0b1011}, {0, 23, 0b1111},
            {1, 6, 0b1000}, {1, 7, 0b1100}, {1, 16, 0b1100}, {1, 17, 0b1101}, {1, 22, 0b1101}, {1, 23, 0b1111},
            {2, 5, 0b1000}, {2, 6, 0b1010}, {2, 12, 0b1010}, {2, 13, 0b1110}, {2, 22, 0b1110}, {2, 9999, 0b1111}};
        for (int[] d : due) {
            Check.due("settled(" + d[0] + ", " + d[1] + ")", x.settled(d[0], d[1]), d[2]);
        }
        x.set(Check.RULE, 2);
        Check.due("the rule of the setting does not matter", x.settled(0, 10), 0b1001);
        x.grant(999);
        Check.due("the treasury does not matter", x.settled(0, 10), 0b1001);
    }

    private static void settledByOrder() {
        Debtors x = new Debtors();
        Check.define(x, "sum a 0-0");
        Check.define(x, "sum a 1-1");
        x.put(0, 0, 1);
        x.tick();
        x.set(Check.PRICE, 5);
        x.put(0, 1, 1);
        x.set(Check.RATE, 0);
        Check.due("settled(0, 5), debts first", x.settled(0, 5), 0);
        x.set(Check.ORDER, 1);
        Check.due("settled(0, 5), arrears first", x.settled(0, 5), 0);
        Check.due("settled(0, 6), arrears first", x.settled(0, 6), 0b01);
        Check.due("settled(2, 5)", x.settled(2, 5), 0b10);
    }

    private static void settledRefuses() {
        Debtors x = debtors();
        int[][] wrong = {{-1, 1}, {3, 1}, {0, 0}, {0, 10000}, {0, -1}, {Integer.MAX_VALUE, 1}, {1, Integer.MIN_VALUE}};
        for (int[] w : wrong) {
            Check.due("settled(" + w[0] + ", " + w[1] + ")", x.settled(w[0], w[1]), Check.INVALID);
        }
    }

    private static void neededIsEnough() {
        Debtors x = new Debtors();
        Check.due("needed() without views", x.needed(), 0);
        x = debtors();
        Check.due("needed()", x.needed(), 23);
        x.grant(22);
        x.payAll();
        Check.due("one is missing", x.count(12) > 0 || x.count(5) != 0 ? 1 : 0, 1);
        x.undo();
        x.grant(1);
        Check.due("payAll()", x.payAll(), 23);
        Check.due("count(12)", x.count(12), 0);
        Check.due("count(5)", x.count(5), 0);
        Check.due("needed() then", x.needed(), 0);
        x = new Debtors();
        Check.define(x, "join 0-0");
        Check.define(x, "less 0 1");
        Check.define(x, "join 0-1");
        x.set(Check.PRICE, 20);
        Check.putOften(x, 200, 0, 0);
        Check.due("needed() may be above what a treasury holds", x.needed(), 200 * 40 * x.count(1));
    }
}
