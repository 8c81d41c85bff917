/** What all tests share: counting wrong answers, telling a text, and making views by it. */
final class Check {
    static final int INVALID = DebtorViews.INVALID_ARGUMENT;
    static final int ILLEGAL = DebtorViews.ILLEGAL_STATE;
    static final int CAPACITY = DebtorViews.CAPACITY_EXCEEDED;
    static final int NONE = DebtorViews.NONE;

    static final int RATE = 0;
    static final int PRICE = 1;
    static final int LIMIT = 2;
    static final int INCOME = 3;
    static final int ORDER = 4;
    static final int RULE = 5;

    private static int wrong = 0;
    private static int calls = 0;

    private Check() {
    }

    static void due(String call, int got, int want) {
        calls++;
        if (got != want) {
            wrong++;
            System.out.println(call + " answered " + got + ", due is " + want);
        }
    }

    static void dueText(String call, String got, String want) {
        calls++;
        if (!got.equals(want)) {
            wrong++;
            System.out.println(call + " answered " + got + ", due is " + want);
        }
    }

    static void tell(DebtorViews x, String text) {
        for (int i = 0; i < text.length(); i++) {
            x.append(text.charAt(i));
        }
    }

    /** Tells a text in place of the one that is there, and defines its view. */
    static int define(DebtorViews x, String text) {
        x.clearText();
        tell(x, text);
        return x.define();
    }

    static void grant(DebtorViews x, int coins) {
        for (int left = coins; left > 0; left -= 999) {
            x.grant(Math.min(left, 999));
        }
    }

    static void tick(DebtorViews x, int ticks) {
        for (int i = 0; i < ticks; i++) {
            x.tick();
        }
    }

    static void putOften(DebtorViews x, int times, int table, int key) {
        for (int i = 0; i < times; i++) {
            x.put(table, key, i % 100);
        }
    }

    /** Everything that can be looked at but the size of the history, to see that a call changed nothing. */
    static String sight(DebtorViews x) {
        StringBuilder sight = new StringBuilder();
        for (int what = 0; what <= 22; what++) {
            if (what != 15) {
                sight.append(x.count(what)).append(' ');
            }
        }
        int end = x.count(0);
        for (int change = 0; change < end; change++) {
            for (int what = 0; what <= 3; what++) {
                sight.append(x.change(change, what)).append(' ');
            }
        }
        for (int view = 0; view < 8; view++) {
            for (int what = 0; what <= 9; what++) {
                sight.append(x.view(view, what)).append(' ');
            }
            sight.append(x.kept(view)).append(' ').append(x.ask(view, end, 0)).append(' ');
        }
        return sight.toString();
    }

    static void end(String test) {
        System.out.println(test + ": " + calls + " answers, " + wrong + " wrong");
        if (wrong != 0) {
            System.exit(1);
        }
    }
}
