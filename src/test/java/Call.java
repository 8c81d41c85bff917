import java.util.Set;

/** One call: the name of a method, and its arguments. */
record Call(String method, int... arguments) {
    private static final Set<String> LOOKS = Set.of("count", "value", "change", "view", "kept", "ask", "ruin", "settled",
        "needed", "since");

    int on(DebtorViews x) {
        int[] a = arguments;
        return switch (method) {
            case "put" -> x.put(a[0], a[1], a[2]);
            case "define" -> x.define();
            case "drop" -> x.drop(a[0]);
            case "set" -> x.set(a[0], a[1]);
            case "grant" -> x.grant(a[0]);
            case "tick" -> x.tick();
            case "pay" -> x.pay(a[0], a[1]);
            case "payAll" -> x.payAll();
            case "found" -> x.found(a[0]);
            case "take" -> x.take(a[0]);
            case "restore" -> x.restore(a[0]);
            case "undo" -> x.undo();
            case "append" -> x.append(a[0]);
            case "clearText" -> x.clearText();
            case "count" -> x.count(a[0]);
            case "value" -> x.value(a[0], a[1], a[2]);
            case "change" -> x.change(a[0], a[1]);
            case "view" -> x.view(a[0], a[1]);
            case "kept" -> x.kept(a[0]);
            case "ask" -> x.ask(a[0], a[1], a[2]);
            case "ruin" -> x.ruin(a[0]);
            case "settled" -> x.settled(a[0], a[1]);
            case "needed" -> x.needed();
            case "since" -> x.since(a[0]);
            default -> throw new IllegalArgumentException("there is no method " + method);
        };
    }

    /** Whether the method only looks, or tells what could be. */
    boolean isLook() {
        return LOOKS.contains(method);
    }

    boolean isCountOf(int what) {
        return method.equals("count") && arguments[0] == what;
    }

    boolean isRefusedBy(int answer) {
        boolean isFault = method.equals("define") && answer <= -1000 && answer >= -1040;
        return isFault || answer == Check.INVALID || answer == Check.ILLEGAL || answer == Check.CAPACITY;
    }

    @Override
    public String toString() {
        StringBuilder text = new StringBuilder(method).append('(');
        for (int i = 0; i < arguments.length; i++) {
            text.append(i == 0 ? "" : ", ").append(arguments[i]);
        }
        return text.append(')').toString();
    }
}
