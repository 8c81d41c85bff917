/** Promises 1 to 25 together: long runs of calls, each answer compared with the model's. */
public final class ModelTest {
    private static final int RUNS = 400;
    private static final int CALLS = 512;
    private static final String[] TEXTS = {
        "sum a 0-5", "sum b3-11", "count a 2-2", " count  b 0 - 11 ", "most a 0-11", "most b 4-6", "join 0-11",
        "join 3-4", "less 0 1", "less 1 0", "less 2 3", "less 4 1", "less 5 6", "sum a 3-12", "less 3 3", "most a 01-2",
        "count", "less 9 0", "join 1-2 x", "sum a 5-3", "sum c 0-1", "most b 100-2", "less 10 2", "join-", "\u00e9"};

    private long seed;
    private DebtorViews x;
    private Model m;

    /** A fixed row of numbers, so that each run of the test is the same. */
    private int next(int bound) {
        seed = seed * 6364136223846793005L + 1442695040888963407L;
        return (int) ((seed >>> 33) % bound);
    }

    /** Mostly a number that is allowed, now and then one beside the range or far from it. */
    private int near(int least, int most) {
        switch (next(40)) {
            case 0: return least - 1;
            case 1: return most + 1;
            case 2: return next(2) == 0 ? Integer.MIN_VALUE : Integer.MAX_VALUE;
            default: return least + next(most - least + 1);
        }
    }

    private int view() {
        return near(0, Math.max(0, Math.min(7, m.count(2) - 1)));
    }

    public static void main(String[] args) {
        ModelTest test = new ModelTest();
        for (int run = 1; run <= RUNS; run++) {
            test.run(run);
        }
        Check.end("ModelTest");
    }

    private void run(int run) {
        seed = run * 7919L;
        x = new DebtorViews();
        m = new Model();
        boolean many = run % 4 == 0;
        for (int call = 0; call < CALLS; call++) {
            String name = "run " + run + " call " + call;
            int kind = next(100);
            if (many && kind < 60) {
                put(name);
            } else if (kind < 45) {
                act(name, kind);
            } else if (kind < 53 && m.count(2) < 8 + next(2)) {
                call += define(name);
            } else {
                look(name, kind % 12);
            }
        }
    }

    private void put(String name) {
        int table = near(0, 1);
        int key = near(0, 11);
        int value = next(4) == 0 ? -1 : near(-1, 99);
        Check.due(name + " put", x.put(table, key, value), m.put(table, key, value));
    }

    private void act(String name, int kind) {
        int view = view();
        int slot = near(0, 1);
        int coins = next(3) == 0 ? near(1, 999) : near(1, 30);
        if (kind < 18) {
            put(name);
        } else if (kind < 24) {
            Check.due(name + " tick", x.tick(), m.tick());
        } else if (kind < 28) {
            Check.due(name + " pay", x.pay(view, coins), m.pay(view, coins));
        } else if (kind < 31) {
            Check.due(name + " payAll", x.payAll(), m.payAll());
        } else if (kind < 34) {
            Check.due(name + " grant", x.grant(coins), m.grant(coins));
        } else if (kind < 37) {
            set(name);
        } else if (kind == 37 || kind == 38) {
            Check.due(name + " found", x.found(view), m.found(view));
        } else if (kind == 39) {
            Check.due(name + " drop", x.drop(view), m.drop(view));
        } else if (kind == 40) {
            Check.due(name + " take", x.take(slot), m.take(slot));
        } else if (kind == 41) {
            Check.due(name + " restore", x.restore(slot), m.restore(slot));
        } else {
            Check.due(name + " undo", x.undo(), m.undo());
        }
    }

    private void set(String name) {
        int[] most = {20, 20, 500, 100, 1, 2};
        int what = near(0, 5);
        int value = what < 0 || what > 5 ? 0 : near(what == 1 ? 1 : 0, what == 2 && next(2) == 0 ? 60 : most[what]);
        Check.due(name + " set", x.set(what, value), m.set(what, value));
    }

    private int define(String name) {
        String text = TEXTS[next(TEXTS.length)];
        if (next(4) > 0) {
            Check.due(name + " clearText", x.clearText(), m.clearText());
        }
        for (int i = 0; i < text.length(); i++) {
            Check.due(name + " append", x.append(text.charAt(i)), m.append(text.charAt(i)));
        }
        Check.due(name + " define", x.define(), m.define());
        return text.length() + 1;
    }

    private void look(String name, int kind) {
        int end = m.count(0);
        int view = view();
        int at = near(0, end);
        switch (kind) {
            case 0: lookAtAccounts(name); break;
            case 1: lookAtViews(name); break;
            case 2: Check.due(name + " kept", x.kept(view), m.kept(view)); break;
            case 3: lookAtAnswer(name, view, at, 0); break;
            case 4: lookAtAnswer(name, view, at, 1); break;
            case 5: Check.due(name + " ruin", x.ruin(view), m.ruin(view)); break;
            case 6: lookAtSettled(name); break;
            case 7: Check.due(name + " needed", x.needed(), m.needed()); break;
            case 8: Check.due(name + " since", x.since(view), m.since(view)); break;
            case 9: lookAtValue(name, at); break;
            case 10: lookAtChange(name, end); break;
            default: lookAtAnswer(name, view, at, near(0, 1)); break;
        }
    }

    private void lookAtAccounts(String name) {
        for (int what = -1; what <= 23; what++) {
            Check.due(name + " count(" + what + ")", x.count(what), m.count(what));
        }
    }

    private void lookAtViews(String name) {
        for (int view = -1; view <= 8; view++) {
            for (int what = -1; what <= 10; what++) {
                Check.due(name + " view(" + view + ", " + what + ")", x.view(view, what), m.view(view, what));
            }
        }
    }

    private void lookAtAnswer(String name, int view, int at, int way) {
        Check.due(name + " ask", x.ask(view, at, way), m.ask(view, at, way));
    }

    private void lookAtSettled(String name) {
        int rule = near(0, 2);
        int coins = near(1, 1 + Math.min(9998, Math.max(0, m.needed()) + 5));
        Check.due(name + " settled", x.settled(rule, coins), m.settled(rule, coins));
    }

    private void lookAtValue(String name, int at) {
        int table = near(0, 1);
        int key = near(0, 11);
        Check.due(name + " value", x.value(table, key, at), m.value(table, key, at));
    }

    private void lookAtChange(String name, int end) {
        int change = near(0, Math.max(0, end - 1));
        int what = near(0, 3);
        Check.due(name + " change", x.change(change, what), m.change(change, what));
    }
}
