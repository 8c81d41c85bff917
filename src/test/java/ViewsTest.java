/** Promises 4 (drop), 19 (view), 20 (kept), 21 (ask) and 25 (since). */
public final class ViewsTest {
    public static void main(String[] args) {
        dropTakesAViewAway();
        dropRefuses();
        viewTells();
        viewTellsOfBankrupts();
        viewRefuses();
        keptStaysBehind();
        keptRefuses();
        askAllKinds();
        askOfMostWhenTheGreatestGoes();
        askOfCornersOfTheTables();
        askRefuses();
        sinceWhen();
        sinceOfAnswersThatComeBack();
        Check.end("ViewsTest");
    }

    private static void dropTakesAViewAway() {
        Debtors x = new Debtors();
        Check.define(x, "sum a 0-0");
        Check.define(x, "sum a 1-1");
        Check.define(x, "sum a 2-2");
        x.put(0, 1, 5);
        x.tick();
        Check.due("a debt", x.count(12), 1);
        Check.due("drop(1)", x.drop(1), 2);
        Check.due("the debt is gone", x.count(12), 0);
        Check.due("and not written off", x.count(11), 0);
        Check.due("count(1)", x.count(1), 2);
        Check.due("count(2)", x.count(2), 3);
        Check.due("count(3)", x.count(3), 0b101);
        Check.due("view(1, 0)", x.view(1, 0), Check.INVALID);
        Check.due("the number is not used again", Check.define(x, "sum a 3-3"), 3);
        Check.due("drop is an action", x.undo(), 4);
        x.undo();
        Check.due("view(1, 7)", x.view(1, 7), 1);
    }

    private static void dropRefuses() {
        Debtors x = new Debtors();
        Check.due("drop(0)", x.drop(0), Check.INVALID);
        Check.define(x, "sum a 0-0");
        Check.define(x, "sum a 1-1");
        Check.define(x, "sum a 2-2");
        Check.define(x, "less 2 0");
        Check.define(x, "less 3 1");
        Sight before = x.sight();
        int[] wrong = {-1, 5, 8, Integer.MIN_VALUE, Integer.MAX_VALUE};
        for (int view : wrong) {
            Check.due("drop(" + view + ")", x.drop(view), Check.INVALID);
        }
        for (int view = 0; view < 4; view++) {
            Check.due("drop(" + view + ")", x.drop(view), Check.ILLEGAL);
        }
        Check.same("errors change nothing", x.sight(), before);
        Check.due("drop(4)", x.drop(4), 4);
        Check.due("drop(4) again", x.drop(4), Check.INVALID);
        Check.due("drop(1)", x.drop(1), 3);
        Check.due("drop(0)", x.drop(0), Check.ILLEGAL);
        Check.due("drop(3)", x.drop(3), 2);
        Check.due("drop(0)", x.drop(0), 1);
        Check.due("drop(2)", x.drop(2), 0);
        Check.due("count(3)", x.count(3), 0);
    }

    private static void rowOf(Debtors x, int view, int... due) {
        for (int what = 0; what < due.length; what++) {
            Check.due("view(" + view + ", " + what + ")", x.view(view, what), due[what]);
        }
    }

    private static void viewTells() {
        Debtors x = new Debtors();
        x.put(0, 0, 1);
        Check.define(x, "sum a 0-5");
        x.put(0, 5, 1);
        x.put(1, 5, 1);
        Check.define(x, "most b 5-11");
        x.put(1, 6, 1);
        Check.define(x, "join 5-6");
        Check.define(x, "less 2 0");
        x.put(0, 6, 1);
        x.tick();
        rowOf(x, 0, 0, 0, 0, 5, 0, 1, 1, 1, 3, 0);
        rowOf(x, 1, 2, 1, 5, 11, 0, 3, 1, 1, 3, 0);
        rowOf(x, 2, 3, Check.NONE, 5, 6, 0, 4, 1, 1, 5, 0);
        rowOf(x, 3, 4, Check.NONE, 2, 0, 0, 4, 1, 1, 5, 0);
        x.pay(2, 4);
        rowOf(x, 2, 3, Check.NONE, 5, 6, 0, 4, 1, 0, 4, 1);
    }

    private static void viewTellsOfBankrupts() {
        Debtors x = new Debtors();
        Check.define(x, "count b 2-3");
        x.set(Check.LIMIT, 0);
        x.put(1, 2, 1);
        x.grant(50);
        x.pay(0, 1);
        rowOf(x, 0, 1, 1, 2, 3, 0, 0, 1, 0, 2, 0);
        x.tick();
        rowOf(x, 0, 1, 1, 2, 3, 1, Check.NONE, 0, 0, 0, 0);
        x.put(1, 2, 1);
        rowOf(x, 0, 1, 1, 2, 3, 1, Check.NONE, 0, 0, 0, 0);
        x.found(0);
        rowOf(x, 0, 1, 1, 2, 3, 0, 2, 0, 0, 0, 12);
    }

    private static void viewRefuses() {
        Debtors x = new Debtors();
        Check.due("view(0, 0)", x.view(0, 0), Check.INVALID);
        Check.define(x, "sum a 0-5");
        int[][] wrong = {{-1, 0}, {1, 0}, {0, -1}, {0, 10}, {8, 0}, {Integer.MAX_VALUE, 0}, {0, Integer.MIN_VALUE}};
        for (int[] w : wrong) {
            Check.due("view(" + w[0] + ", " + w[1] + ")", x.view(w[0], w[1]), Check.INVALID);
        }
    }

    private static void keptStaysBehind() {
        Debtors x = new Debtors();
        x.put(0, 0, 10);
        Check.define(x, "sum a 0-5");
        Check.define(x, "most a 6-7");
        Check.define(x, "less 1 0");
        Check.due("kept(0)", x.kept(0), 10);
        Check.due("kept(1)", x.kept(1), -1);
        Check.due("kept(2)", x.kept(2), -11);
        x.put(0, 0, 20);
        x.put(0, 6, 30);
        Check.due("kept(0) behind changes", x.kept(0), 10);
        x.grant(2);
        x.pay(0, 2);
        Check.due("kept(0) behind a payment", x.kept(0), 20);
        Check.due("kept(2) whatever these keep", x.kept(2), -11);
        Check.due("kept(1)", x.kept(1), -1);
    }

    private static void keptRefuses() {
        Debtors x = new Debtors();
        Check.define(x, "sum a 0-5");
        Check.due("kept(-1)", x.kept(-1), Check.INVALID);
        Check.due("kept(1)", x.kept(1), Check.INVALID);
        Check.due("kept(MAX)", x.kept(Integer.MAX_VALUE), Check.INVALID);
        x.set(Check.LIMIT, 0);
        x.put(0, 0, 1);
        x.tick();
        Check.due("kept(0) of a bankrupt one", x.kept(0), Check.ILLEGAL);
        x.drop(0);
        Check.due("kept(0) of a dropped one", x.kept(0), Check.INVALID);
    }

    private static void askBoth(Debtors x, int view, int at, int due) {
        Check.due("ask(" + view + ", " + at + ", 0)", x.ask(view, at, 0), due);
        Check.due("ask(" + view + ", " + at + ", 1)", x.ask(view, at, 1), due);
    }

    private static void askAllKinds() {
        Debtors x = new Debtors();
        x.put(0, 2, 9);
        x.put(1, 2, 8);
        x.put(0, 4, 0);
        x.put(1, 4, 7);
        x.put(0, 4, 99);
        x.put(0, 2, -1);
        String[] texts = {"sum a 2-4", "count a 2-4", "most a 2-4", "join 2-4", "less 3 0", "less 2 4", "sum b 3-4"};
        int[][] due = {{0, 9, 9, 9, 9, 108, 99}, {0, 1, 1, 2, 2, 2, 1}, {-1, 9, 9, 9, 9, 99, 99},
            {0, 0, 72, 72, 72, 765, 693}, {0, -9, 63, 63, 63, 657, 594}, {-1, 18, -54, -54, -54, -558, -495},
            {0, 0, 0, 0, 7, 7, 7}};
        for (int view = 0; view < texts.length; view++) {
            Check.define(x, texts[view]);
        }
        for (int view = 0; view < texts.length; view++) {
            for (int at = 0; at <= 6; at++) {
                askBoth(x, view, at, due[view][at]);
            }
            for (int at = 6; at >= 0; at -= 2) {
                Check.due("ask(" + view + ", " + at + ", 1) going back", x.ask(view, at, 1), due[view][at]);
            }
        }
        x.set(Check.LIMIT, 0);
        x.put(0, 2, 1);
        x.tick();
        Check.due("bankrupt ones", x.count(4), 0b0111111);
        askBoth(x, 0, 7, 100);
        askBoth(x, 4, 7, 701 - 100);
    }

    private static void askOfMostWhenTheGreatestGoes() {
        Debtors x = new Debtors();
        Check.define(x, "most b 0-11");
        x.put(1, 0, 0);
        x.put(1, 11, 5);
        x.put(1, 5, 5);
        x.put(1, 5, 3);
        x.put(1, 11, -1);
        x.put(1, 5, -1);
        x.put(1, 0, -1);
        int[] due = {-1, 0, 5, 5, 5, 3, 0, -1};
        for (int at = 0; at < due.length; at++) {
            askBoth(x, 0, at, due[at]);
        }
    }

    private static void askOfCornersOfTheTables() {
        Debtors x = new Debtors();
        Check.define(x, "count a 0-0");
        Check.define(x, "count b 11-11");
        Check.define(x, "most a 0-0");
        Check.define(x, "join 11-11");
        x.put(0, 0, 0);
        x.put(1, 11, 2);
        x.put(0, 11, 3);
        int[][] due = {{0, 1, 1, 1}, {0, 0, 1, 1}, {-1, 0, 0, 0}, {0, 0, 0, 6}};
        for (int view = 0; view < due.length; view++) {
            for (int at = 3; at >= 0; at--) {
                askBoth(x, view, at, due[view][at]);
            }
        }
    }

    private static void askRefuses() {
        Debtors x = new Debtors();
        Check.define(x, "sum a 0-5");
        x.put(0, 0, 1);
        int[][] wrong = {{-1, 0, 0}, {1, 0, 0}, {0, -1, 0}, {0, 2, 0}, {0, 2, 1}, {0, 0, -1}, {0, 0, 2},
            {Integer.MAX_VALUE, 0, 0}, {0, Integer.MAX_VALUE, 1}, {0, Integer.MIN_VALUE, 1}, {0, 0, Integer.MIN_VALUE}};
        for (int[] w : wrong) {
            Check.due("ask(" + w[0] + ", " + w[1] + ", " + w[2] + ")", x.ask(w[0], w[1], w[2]), Check.INVALID);
        }
    }

    private static void sinceWhen() {
        Debtors x = new Debtors();
        Check.define(x, "sum b 3-3");
        x.put(1, 3, 1);
        x.put(1, 4, 1);
        Check.due("since(0) behind the first change", x.since(0), 1);
        x = new Debtors();
        Check.due("since(0)", x.since(0), Check.INVALID);
        Check.define(x, "sum a 0-5");
        Check.due("since(0) of an empty log", x.since(0), 0);
        x.put(0, 6, 1);
        x.put(0, 0, 0);
        Check.due("since(0) while the answer is the first one", x.since(0), 0);
        Check.due("since(0) again", x.since(0), 0);
        x.put(0, 0, 4);
        Check.due("ask(0, 3, 0)", x.ask(0, 3, 0), 4);
        Check.due("since(0) right behind a change", x.since(0), 3);
        x.put(0, 0, 4);
        x.put(1, 0, 4);
        Check.due("since(0) behind changes of nothing", x.since(0), 3);
        x.set(Check.LIMIT, 0);
        x.tick();
        Check.due("bankrupt", x.count(4), 1);
        Check.due("since(0) of a bankrupt one", x.since(0), 3);
        Check.due("since(-1)", x.since(-1), Check.INVALID);
        Check.due("since(1)", x.since(1), Check.INVALID);
        Check.due("since(MAX)", x.since(Integer.MAX_VALUE), Check.INVALID);
    }

    private static void sinceOfAnswersThatComeBack() {
        Debtors x = new Debtors();
        Check.define(x, "sum a 0-5");
        Check.define(x, "sum a 0-0");
        Check.define(x, "less 0 1");
        x.put(0, 0, 4);
        x.put(0, 0, 5);
        x.put(0, 0, 4);
        Check.due("since(0)", x.since(0), 3);
        Check.due("since(2): both change alike", x.since(2), 0);
        x.put(0, 3, 1);
        x.put(0, 0, 9);
        Check.due("since(2)", x.since(2), 4);
        Check.due("since(2) again", x.since(2), 4);
        Check.due("since(1)", x.since(1), 5);
    }
}
