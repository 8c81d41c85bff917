/** What all tests share: counting wrong answers, telling a text, and making views by it. */
final class Check {
    static final int INVALID = -100000001;
    static final int ILLEGAL = -100000002;
    static final int CAPACITY = -100000003;
    static final int NONE = -100000009;

    static final int RATE = 0;
    static final int PRICE = 1;
    static final int LIMIT = 2;
    static final int INCOME = 3;
    static final int ORDER = 4;
    static final int RULE = 5;

    private static final int MOST_SECONDS = 300;

    private static int wrong = 0;
    private static int calls = 0;

    static {
        endInTime();
    }

    private Check() {
    }

    static void due(String call, int got, int want) {
        calls++;
        if (got != want) {
            fail(call + " answered " + got + ", due is " + want);
        }
    }

    static void fail(String what) {
        wrong++;
        System.out.println(what);
    }

    /** Two objects are alike, in all that can be seen of them. */
    static void same(String what, Sight one, Sight other) {
        calls++;
        String difference = one.difference(other);
        if (difference != null) {
            fail(what + ": " + difference);
        }
    }

    static void dueText(String call, String got, String want) {
        calls++;
        if (!got.equals(want)) {
            fail(call + " answered " + got + ", due is " + want);
        }
    }

    /** A call that does not end is to make the test fail, and not to hang. */
    private static void endInTime() {
        Thread watch = new Thread(() -> {
            try {
                Thread.sleep(MOST_SECONDS * 1000L);
            } catch (InterruptedException e) {
                Thread.currentThread().interrupt();
            }
            System.out.println("a test has not ended in " + MOST_SECONDS + " seconds");
            Runtime.getRuntime().halt(1);
        });
        watch.setDaemon(true);
        watch.start();
    }

    static void tell(Debtors x, String text) {
        for (int i = 0; i < text.length(); i++) {
            x.append(text.charAt(i));
        }
    }

    /** Tells a text in place of the one that is there, and defines its view. */
    static int define(Debtors x, String text) {
        x.clearText();
        tell(x, text);
        return x.define();
    }

    static void grant(Debtors x, int coins) {
        for (int left = coins; left > 0; left -= 999) {
            x.grant(Math.min(left, 999));
        }
    }

    static void tick(Debtors x, int ticks) {
        for (int i = 0; i < ticks; i++) {
            x.tick();
        }
    }

    static void putOften(Debtors x, int times, int table, int key) {
        for (int i = 0; i < times; i++) {
            x.put(table, key, i % 100);
        }
    }

    static void end(String test) {
        System.out.println(test + ": " + calls + " answers, " + wrong + " wrong");
        if (wrong != 0) {
            System.exit(1);
        }
    }
}
