/**
 * Promises 1 to 25 together: runs of 512 calls, the answer to each one compared with the model's. Some runs are brought
 * to the boundaries first, since mere chance hardly gets there: a full log, eight views, a full treasury, great debts.
 */
public final class ModelTest {
    private static final int RUNS = 6000;
    private static final String[] TEXTS = {
        "sum a 0-5", "sum b3-11", "count a 2-2", " count  b 0 - 11 ", "most a 0-11", "most b 4-6", "join 0-11",
        "join 3-4", "less 0 1", "less 1 0", "less 2 3", "less 4 1", "less 5 6", "sum a 3-12", "less 3 3", "most a 01-2",
        "count", "less 9 0", "join 1-2 x", "sum a 5-3", "sum c 0-1", "most b 100-2", "less 10 2", "join-", "\u00e9"};

    private static final String[] EIGHT = {"sum a0-9", "join2-11", "most b 0-11", "less 1 0", "count a0-11", "less 3 2", "join0-4",
        "less 5 1", "sum b5-5", "sum a11-11", "less 0 1", "most a3-8"};

    private long seed;
    private Debtors x;
    private Model m;
    private String name;

    /** A fixed row of numbers, so that each run of the test is the same. */
    private int next(int bound) {
        seed = seed * 6364136223846793005L + 1442695040888963407L;
        return (int) ((seed >>> 33) % bound);
    }

    /** Mostly a number that is allowed, now and then one beside the range or far from it. */
    private int near(int least, int most) {
        switch (next(40)) {
            case 0: return least - 1;
            case 1: return most + 1;
            case 2: return next(2) == 0 ? Integer.MIN_VALUE : Integer.MAX_VALUE;
            default: return least + next(most - least + 1);
        }
    }

    private int view() {
        return near(0, Math.max(0, Math.min(7, m.count(2) - 1)));
    }

    public static void main(String[] args) {
        ModelTest test = new ModelTest();
        for (int run = 1; run <= RUNS; run++) {
            test.run(run);
        }
        Check.end("ModelTest");
    }

    private void run(int run) {
        seed = run * 7919L;
        x = Debtors.unwatched();
        m = new Model();
        name = "run " + run;
        goToBoundaries(run % 8);
        int puts = run % 4 == 0 ? 50 : run % 4 == 1 ? 3 : 12;
        int views = 4 + run % 6;
        while (x.left() > 0) {
            name = "run " + run + ", call " + (Debtors.MOST_CALLS - x.left());
            int kind = next(100);
            if (kind < puts) {
                put();
            } else if (kind < puts + 26) {
                act();
            } else if (kind < puts + 34 && m.count(2) < views && (m.count(2) < 8 || next(4) == 0)) {
                define();
            } else {
                look();
            }
        }
    }

    private void goToBoundaries(int which) {
        if (which == 1 || which == 2 || which == 3) {
            defineEight();
        }
        if (which == 3 || which == 4 || which == 5) {
            fillTreasury();
        }
        if (which == 1 || which == 3 || which == 5) {
            fillLog();
        }
    }

    /** One of the twelve texts may ask for views that are not there: then it is refused, and there are fewer. */
    private void defineEight() {
        for (int view = 0; view < 8; view++) {
            define(EIGHT[next(3) == 0 ? next(EIGHT.length) : view]);
            if (next(3) == 0) {
                put();
            }
        }
    }

    private void fillTreasury() {
        for (int[] setting : new int[][] {{1, 1 + next(20)}, {0, 1 + next(20)}, {2, 500 - next(100)}}) {
            due("set", x.set(setting[0], setting[1]), m.set(setting[0], setting[1]));
        }
        for (int i = 0; i < 10; i++) {
            due("grant", x.grant(999), m.grant(999));
        }
    }

    private void fillLog() {
        int most = 194 + next(7);
        for (int i = m.count(0); i < most; i++) {
            put(next(2), next(12), next(101) - 1);
            if (i == 20 && next(2) == 0) {
                due("tick", x.tick(), m.tick());
            }
        }
    }

    private void due(String method, int answer, int want) {
        Check.due(name + ": " + method, answer, want);
    }

    private void put() {
        int table = near(0, 1);
        int key = near(0, 11);
        int value = next(4) == 0 ? -1 : near(-1, 99);
        put(table, key, value);
    }

    private void put(int table, int key, int value) {
        due("put", x.put(table, key, value), m.put(table, key, value));
    }

    private void act() {
        int view = view();
        int slot = near(0, 1);
        int coins = next(8) == 0 ? 999 : next(3) == 0 ? near(1, 999) : near(1, 30);
        switch (next(26)) {
            case 0, 1, 2, 3, 4, 5: due("tick", x.tick(), m.tick()); break;
            case 6, 7, 8, 9: due("pay", x.pay(view, coins), m.pay(view, coins)); break;
            case 10, 11, 12: due("payAll", x.payAll(), m.payAll()); break;
            case 13, 14, 15: due("grant", x.grant(coins), m.grant(coins)); break;
            case 16, 17: set(); break;
            case 18, 19: due("found", x.found(view), m.found(view)); break;
            case 20: due("drop", x.drop(view), m.drop(view)); break;
            case 21: due("take", x.take(slot), m.take(slot)); break;
            case 22: due("restore", x.restore(slot), m.restore(slot)); break;
            default: due("undo", x.undo(), m.undo()); break;
        }
    }

    private void set() {
        int[] most = {20, 20, 500, 100, 1, 2};
        int what = near(0, 5);
        int value = what < 0 || what > 5 ? 0 : near(what == 1 ? 1 : 0, what == 2 && next(2) == 0 ? 60 : most[what]);
        due("set", x.set(what, value), m.set(what, value));
    }

    private void define() {
        String text = TEXTS[next(TEXTS.length)];
        if (text.length() + 2 > x.left()) {
            look();
        } else {
            define(text);
        }
    }

    private void define(String text) {
        if (next(4) > 0) {
            due("clearText", x.clearText(), m.clearText());
        }
        for (int i = 0; i < text.length(); i++) {
            due("append", x.append(text.charAt(i)), m.append(text.charAt(i)));
        }
        due("define", x.define(), m.define());
    }

    private void look() {
        int end = m.count(0);
        int view = view();
        int at = next(3) == 0 ? end : near(0, end);
        int what = near(0, 22);
        int way = near(0, 1);
        switch (next(24)) {
            case 0, 1, 2, 3, 4: due("count(" + what + ")", x.count(what), m.count(what)); break;
            case 5, 6, 7, 8, 9, 10: lookAtView(view, near(0, 9)); break;
            case 11, 12: due("kept", x.kept(view), m.kept(view)); break;
            case 13, 14, 15: due("ask", x.ask(view, at, way), m.ask(view, at, way)); break;
            case 16, 17: due("ruin", x.ruin(view), m.ruin(view)); break;
            case 18, 19: lookAtSettled(); break;
            case 20: due("needed", x.needed(), m.needed()); break;
            case 21: due("since", x.since(view), m.since(view)); break;
            case 22: lookAtValue(at); break;
            default: lookAtChange(end); break;
        }
    }

    private void lookAtView(int view, int what) {
        due("view(" + view + ", " + what + ")", x.view(view, what), m.view(view, what));
    }

    private void lookAtSettled() {
        int rule = near(0, 2);
        int coins = near(1, 1 + Math.min(9998, Math.max(0, m.needed()) + 5));
        due("settled", x.settled(rule, coins), m.settled(rule, coins));
    }

    /** Mostly where a change has been made right behind the place or ahead of it. */
    private void lookAtValue(int at) {
        int change = at - next(3);
        boolean isNear = next(3) > 0 && change >= 0 && change < m.count(0);
        int table = isNear ? m.change(change, 0) : near(0, 1);
        int key = isNear ? m.change(change, 1) : near(0, 11);
        due("value", x.value(table, key, at), m.value(table, key, at));
    }

    private void lookAtChange(int end) {
        int change = near(0, Math.max(0, end - 1));
        int what = near(0, 3);
        due("change", x.change(change, what), m.change(change, what));
    }
}
