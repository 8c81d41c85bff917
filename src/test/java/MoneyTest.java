/** Promises 6 (grant), 7 (tick), 8 (pay), 9 (payAll) and 10 (found). */
public final class MoneyTest {
    public static void main(String[] args) {
        grantFillsTheTreasury();
        tickLetsDebtsGrow();
        tickBreaksViews();
        tickIsFull();
        payDebtsFirst();
        payArrearsFirst();
        payTwoPricesForJoinAndLess();
        payNothingLetsAViewGoOn();
        payRefuses();
        payAllByNumbers();
        payAllByDebts();
        payAllByNeeds();
        payAllRefuses();
        foundCosts();
        foundRefuses();
        Check.end("MoneyTest");
    }

    private static void grantFillsTheTreasury() {
        Debtors x = new Debtors();
        int[] wrong = {0, -1, 1000, Integer.MIN_VALUE, Integer.MAX_VALUE};
        for (int coins : wrong) {
            Check.due("grant(" + coins + ")", x.grant(coins), Check.INVALID);
        }
        Check.due("grant(1)", x.grant(1), 1);
        Check.due("grant(999)", x.grant(999), 1000);
        Check.due("grant is an action", x.count(15), 2);
        Check.grant(x, 8000);
        Check.due("grant(999)", x.grant(999), 9999);
        Check.due("grant(1) of a full treasury", x.grant(1), Check.CAPACITY);
        Check.due("an argument goes ahead of the room", x.grant(1000), Check.INVALID);
        Check.due("count(7)", x.count(7), 9999);
    }

    private static void tickLetsDebtsGrow() {
        Debtors x = new Debtors();
        Check.define(x, "sum a 0-0");
        Check.define(x, "join 0-1");
        x.set(Check.RATE, 3);
        x.set(Check.INCOME, 7);
        x.put(0, 0, 1);
        x.put(0, 1, 1);
        Check.due("tick()", x.tick(), 0);
        Check.due("view(0, 7)", x.view(0, 7), 3);
        Check.due("view(1, 7)", x.view(1, 7), 6);
        Check.due("count(6)", x.count(6), 7);
        Check.due("count(7)", x.count(7), 7);
        Check.due("count(13)", x.count(13), 1);
        Check.due("tick is an action", x.undo(), 4);
        Check.due("count(12)", x.count(12), 0);
    }

    private static void tickBreaksViews() {
        Debtors x = new Debtors();
        Check.define(x, "sum a 0-0");
        Check.define(x, "count a 0-1");
        Check.define(x, "sum b 0-0");
        x.put(0, 0, 1);
        x.put(0, 1, 1);
        x.set(Check.LIMIT, 2);
        Check.due("a debt as great as the limit", x.tick(), 0);
        Check.due("a debt above the limit", x.tick(), 0b010);
        Check.due("count(4)", x.count(4), 0b010);
        Check.due("count(5)", x.count(5), 0b001);
        Check.due("count(11)", x.count(11), 4);
        Check.due("count(12)", x.count(12), 2);
        x.pay(0, 4);
        Check.due("nothing left but what is written off", x.count(12), 0);
        x.put(0, 0, 1);
        x.tick();
        x.tick();
        x.set(Check.ORDER, 1);
        x.pay(0, 2);
        Check.due("view(0, 6)", x.view(0, 6), 0);
        Check.due("view(0, 7)", x.view(0, 7), 2);
        x.set(Check.LIMIT, 1);
        Check.due("a debt that did not grow", x.tick(), 0b001);
        Check.due("count(11)", x.count(11), 6);
        Check.due("bankrupt ones do not become bankrupt", x.tick(), 0);
        x.set(Check.LIMIT, 0);
        Check.due("no debt at all", x.tick(), 0);
    }

    private static void tickIsFull() {
        Debtors x = new Debtors();
        Check.define(x, "sum a 0-0");
        x.put(0, 0, 1);
        Check.grant(x, 9990);
        x.set(Check.INCOME, 10);
        Check.due("tick()", x.tick(), Check.CAPACITY);
        Check.due("view(0, 7)", x.view(0, 7), 0);
        Check.due("count(13)", x.count(13), 0);
        x.set(Check.INCOME, 9);
        Check.due("tick()", x.tick(), 0);
        Check.due("count(6)", x.count(6), 9999);
        x.set(Check.INCOME, 0);
        Check.due("tick() of a full treasury", x.tick(), 0);
        Check.due("count(13)", x.count(13), 2);
    }

    /** A view of "sum a 0-5" with a debt of 6 and arrears at 1, 3 and 4; the other change is at 0. */
    private static Debtors debtor(int order, int coins) {
        Debtors x = new Debtors();
        Check.define(x, "sum a 0-5");
        x.put(1, 0, 9);
        x.put(0, 0, 10);
        x.put(0, 6, 9);
        x.put(0, 1, 20);
        x.put(0, 5, 30);
        x.set(Check.INCOME, 0);
        Check.tick(x, 2);
        x.set(Check.ORDER, order);
        x.grant(coins);
        return x;
    }

    /** What a payment comes to: coins spent, place, answer, arrears, debt, coins spent on debts and on arrears. */
    private static void payment(int order, int treasury, int coins, int... due) {
        Debtors x = debtor(order, treasury);
        String call = "order " + order + ", treasury " + treasury + ", pay(0, " + coins + ")";
        Check.due(call, x.pay(0, coins), due[0]);
        Check.due(call + ": place", x.view(0, 5), due[1]);
        Check.due(call + ": kept", x.kept(0), due[2]);
        Check.due(call + ": arrears", x.view(0, 6), due[3]);
        Check.due(call + ": debt", x.view(0, 7), due[4]);
        Check.due(call + ": on debts", x.count(8), due[5]);
        Check.due(call + ": on arrears", x.count(9), due[6]);
        Check.due(call + ": spent", x.view(0, 9), due[0]);
        Check.due(call + ": treasury", x.count(6), treasury - due[0]);
        x.undo();
        Check.due("pay is an action", x.view(0, 7), 6);
    }

    private static void payDebtsFirst() {
        payment(0, 100, 1, 1, 1, 0, 3, 5, 1, 0);
        payment(0, 100, 6, 6, 1, 0, 3, 0, 6, 0);
        payment(0, 100, 7, 6, 1, 0, 3, 0, 6, 0);
        payment(0, 100, 8, 8, 3, 10, 2, 0, 6, 2);
        payment(0, 100, 11, 10, 4, 30, 1, 0, 6, 4);
        payment(0, 100, 12, 12, 5, 60, 0, 0, 6, 6);
        payment(0, 100, 999, 12, 5, 60, 0, 0, 6, 6);
        payment(0, 9, 999, 8, 3, 10, 2, 0, 6, 2);
    }

    private static void payArrearsFirst() {
        payment(1, 100, 1, 1, 1, 0, 3, 5, 1, 0);
        payment(1, 100, 2, 2, 3, 10, 2, 6, 0, 2);
        payment(1, 100, 5, 5, 4, 30, 1, 5, 1, 4);
        payment(1, 100, 6, 6, 5, 60, 0, 6, 0, 6);
        payment(1, 100, 11, 11, 5, 60, 0, 1, 5, 6);
        payment(1, 100, 12, 12, 5, 60, 0, 0, 6, 6);
        payment(1, 100, 13, 12, 5, 60, 0, 0, 6, 6);
        payment(1, 3, 999, 3, 3, 10, 2, 5, 1, 2);
    }

    private static void payTwoPricesForJoinAndLess() {
        Debtors x = new Debtors();
        Check.define(x, "join 0-1");
        Check.define(x, "most b 2-2");
        Check.define(x, "less 0 1");
        x.set(Check.PRICE, 5);
        x.put(0, 0, 3);
        x.put(1, 0, 3);
        x.put(1, 2, 3);
        x.grant(200);
        Check.due("needs", x.view(0, 8) * 10000 + x.view(1, 8) * 100 + x.view(2, 8), 200530);
        Check.due("pay(0, 19)", x.pay(0, 19), 10);
        Check.due("pay(1, 19)", x.pay(1, 19), 5);
        Check.due("pay(2, 29)", x.pay(2, 29), 20);
        Check.due("view(2, 5)", x.view(2, 5), 2);
        Check.due("kept(2)", x.kept(2), 9 + 1);
    }

    private static void payNothingLetsAViewGoOn() {
        Debtors x = new Debtors();
        Check.define(x, "sum a 0-0");
        x.put(1, 0, 1);
        x.grant(1);
        Check.due("pay(0, 1) of nothing", x.pay(0, 1), 0);
        Check.due("view(0, 5)", x.view(0, 5), 1);
        Check.due("it is an action all the same", x.count(15), 4);
        x.put(1, 1, 1);
        x.put(0, 0, 1);
        Check.due("pay(0, 1) of too little", x.pay(0, 1), 0);
        Check.due("view(0, 5)", x.view(0, 5), 2);
    }

    private static void payRefuses() {
        Debtors x = new Debtors();
        Check.define(x, "sum a 0-0");
        Check.define(x, "sum a 1-1");
        Check.due("pay(0, 1) of an empty treasury", x.pay(0, 1), Check.ILLEGAL);
        int[][] wrong = {{-1, 1}, {2, 1}, {0, 0}, {0, 1000}, {0, -1}, {Integer.MAX_VALUE, 1}, {0, Integer.MIN_VALUE}};
        for (int[] w : wrong) {
            Check.due("pay(" + w[0] + ", " + w[1] + ")", x.pay(w[0], w[1]), Check.INVALID);
        }
        x.set(Check.LIMIT, 0);
        x.put(0, 0, 1);
        x.tick();
        Check.due("pay(0, 1) of a bankrupt one", x.pay(0, 1), Check.ILLEGAL);
        Check.due("pay(0, 0) of a bankrupt one", x.pay(0, 0), Check.INVALID);
        x.drop(1);
        Check.due("pay(1, 1) of a dropped one", x.pay(1, 1), Check.INVALID);
    }

    /** Views 0 to 3: one arrear and a debt of 2; three of them and 6; two of them and 6; one of them and 1. */
    private static Debtors debtors(int rule, int coins) {
        Debtors x = new Debtors();
        Check.define(x, "sum a 0-0");
        Check.define(x, "sum a 1-1");
        Check.define(x, "join 2-3");
        Check.define(x, "most b 4-4");
        Check.define(x, "sum b 5-5");
        Check.putOften(x, 1, 0, 0);
        Check.putOften(x, 3, 0, 1);
        x.set(Check.INCOME, 0);
        x.set(Check.LIMIT, 6);
        Check.putOften(x, 2, 1, 2);
        Check.putOften(x, 4, 1, 5);
        x.tick();
        x.put(1, 4, 7);
        x.tick();
        x.set(Check.RULE, rule);
        Check.due("view 4 is bankrupt", x.count(4), 0b10000);
        x.grant(coins);
        return x;
    }

    /** What paying all comes to: coins spent, then the places of views 0 to 3, then their debts. */
    private static void paymentOfAll(int rule, int coins, int... due) {
        Debtors x = debtors(rule, coins);
        String call = "rule " + rule + ", treasury " + coins + ", payAll()";
        Check.due(call, x.payAll(), due[0]);
        for (int view = 0; view < 4; view++) {
            Check.due(call + ": place of " + view, x.view(view, 5), due[1 + view]);
            Check.due(call + ": debt of " + view, x.view(view, 7), due[5 + view]);
        }
        Check.due(call + ": spent", x.count(6) + x.count(8) + x.count(9), coins);
        Check.due(call + ": view 4 stays bankrupt", x.view(4, 4), 1);
        x.undo();
        Check.due("payAll is an action", x.count(12), 2 + 6 + 4 + 1);
    }

    private static void payAllByNumbers() {
        paymentOfAll(0, 1, 1, 0, 1, 4, 10, 1, 6, 4, 1);
        paymentOfAll(0, 5, 5, 11, 1, 4, 10, 0, 5, 4, 1);
        paymentOfAll(0, 13, 13, 11, 2, 4, 10, 0, 0, 3, 1);
        paymentOfAll(0, 30, 29, 11, 11, 11, 10, 0, 0, 0, 0);
        paymentOfAll(0, 31, 31, 11, 11, 11, 11, 0, 0, 0, 0);
        paymentOfAll(0, 33, 31, 11, 11, 11, 11, 0, 0, 0, 0);
    }

    private static void payAllByDebts() {
        paymentOfAll(1, 1, 1, 0, 1, 4, 10, 2, 5, 4, 1);
        paymentOfAll(1, 13, 13, 0, 11, 4, 10, 2, 0, 3, 1);
        paymentOfAll(1, 26, 26, 0, 11, 11, 10, 0, 0, 0, 1);
    }

    private static void payAllByNeeds() {
        paymentOfAll(2, 3, 3, 0, 1, 4, 11, 2, 6, 4, 0);
        paymentOfAll(2, 8, 8, 11, 1, 4, 11, 0, 5, 4, 0);
        paymentOfAll(2, 20, 20, 11, 11, 4, 11, 0, 0, 3, 0);
    }

    private static void payAllRefuses() {
        Debtors x = new Debtors();
        Check.due("payAll() of an empty treasury", x.payAll(), Check.ILLEGAL);
        x.grant(1);
        Check.due("payAll() without views", x.payAll(), 0);
        Check.due("count(15)", x.count(15), 2);
    }

    private static void broken(Debtors x) {
        x.set(Check.LIMIT, 0);
        x.put(0, 0, 3);
        x.put(1, 0, 3);
        x.tick();
        x.set(Check.INCOME, 0);
    }

    private static void foundCosts() {
        Debtors x = new Debtors();
        Check.define(x, "sum a 0-0");
        Check.define(x, "most b 0-11");
        Check.define(x, "join 0-4");
        Check.define(x, "less 0 1");
        Check.define(x, "less 3 0");
        broken(x);
        Check.due("count(4)", x.count(4), 0b11111);
        Check.grant(x, 1000);
        x.put(0, 0, 7);
        int[] due = {6, 72, 30, 78, 84};
        int spent = 0;
        for (int view = 0; view < 5; view++) {
            Check.due("found(" + view + ")", x.found(view), due[view]);
            spent += due[view];
            Check.due("view(" + view + ", 9)", x.view(view, 9), due[view]);
            Check.due("view(" + view + ", 5)", x.view(view, 5), 3);
            Check.due("view(" + view + ", 7)", x.view(view, 7), 0);
            Check.due("count(10)", x.count(10), spent);
            Check.due("count(6)", x.count(6), 1005 - spent);
        }
        Check.due("kept(0)", x.kept(0), 7);
        Check.due("kept(2)", x.kept(2), 21);
        Check.due("kept(4)", x.kept(4), 7 - 3 - 7);
        Check.due("count(4)", x.count(4), 0);
        x.undo();
        Check.due("found is an action", x.count(4), 0b10000);
    }

    private static void foundRefuses() {
        Debtors x = new Debtors();
        Check.due("found(0)", x.found(0), Check.INVALID);
        Check.define(x, "sum a 0-0");
        x.grant(500);
        Check.due("found(0) of one that is not bankrupt", x.found(0), Check.ILLEGAL);
        Check.due("found(-1)", x.found(-1), Check.INVALID);
        Check.due("found(1)", x.found(1), Check.INVALID);
        Check.due("found(MAX)", x.found(Integer.MAX_VALUE), Check.INVALID);
        x = new Debtors();
        Check.define(x, "sum a 0-0");
        broken(x);
        Check.due("found(0) with 5 of 6 coins", x.found(0), Check.ILLEGAL);
        x.grant(1);
        x.set(Check.PRICE, 3);
        Check.due("found(0) with 6 of 9 coins", x.found(0), Check.ILLEGAL);
        x.set(Check.PRICE, 2);
        Check.due("found(0) with 6 coins", x.found(0), 6);
        Check.due("count(6)", x.count(6), 0);
    }
}
