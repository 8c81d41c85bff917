import java.util.ArrayList;
import java.util.List;

/**
 * An object under test. It keeps its calls, so that others can be brought to where it is: by that it is seen, behind
 * each refused call and each look, that nothing has changed. More than the 512 calls that are promised are an error.
 */
final class Debtors {
    static final int MOST_CALLS = 512;
    /** With fewer calls left, to look at everything would take too many objects. */
    private static final int LEAST_ROOM = 40;

    private final DebtorViews object = new DebtorViews();
    private final List<Call> run = new ArrayList<>();
    private final boolean isWatched;
    private Sight latest;

    Debtors() {
        this(true);
    }

    /** One that is not watched, for runs that are so many that it would take too long. */
    static Debtors unwatched() {
        return new Debtors(false);
    }

    private Debtors(boolean isWatched) {
        this.isWatched = isWatched;
    }

    int left() {
        return MOST_CALLS - run.size();
    }

    Sight sight() {
        return Sight.ofAll(run, left());
    }

    Sight sightOfState() {
        return Sight.ofState(run, left());
    }

    int call(String method, int... arguments) {
        Call call = new Call(method, arguments);
        if (left() == 0) {
            Check.fail(call + " is a call behind the 512th");
        }
        int answer = call.on(object);
        if (!call.isLook() && !call.isRefusedBy(answer)) {
            latest = null;
        } else if (isWatched && left() > LEAST_ROOM) {
            seeThatNothingChangesBy(call);
        }
        run.add(call);
        return answer;
    }

    private void seeThatNothingChangesBy(Call call) {
        int room = left() - 1;
        Sight before = latest != null ? latest : Sight.ofAll(run, room);
        List<Call> longer = new ArrayList<>(run);
        longer.add(call);
        String difference = Sight.ofAll(longer, room).difference(before);
        if (difference != null) {
            Check.fail("behind " + run + ", " + call + " changes something: " + difference);
        }
        latest = before;
    }

    int put(int table, int key, int value) {
        return call("put", table, key, value);
    }

    int define() {
        return call("define");
    }

    int drop(int view) {
        return call("drop", view);
    }

    int set(int what, int value) {
        return call("set", what, value);
    }

    int grant(int coins) {
        return call("grant", coins);
    }

    int tick() {
        return call("tick");
    }

    int pay(int view, int coins) {
        return call("pay", view, coins);
    }

    int payAll() {
        return call("payAll");
    }

    int found(int view) {
        return call("found", view);
    }

    int take(int slot) {
        return call("take", slot);
    }

    int restore(int slot) {
        return call("restore", slot);
    }

    int undo() {
        return call("undo");
    }

    int append(int character) {
        return call("append", character);
    }

    int clearText() {
        return call("clearText");
    }

    int count(int what) {
        return call("count", what);
    }

    int value(int table, int key, int at) {
        return call("value", table, key, at);
    }

    int change(int change, int what) {
        return call("change", change, what);
    }

    int view(int view, int what) {
        return call("view", view, what);
    }

    int kept(int view) {
        return call("kept", view);
    }

    int ask(int view, int at, int way) {
        return call("ask", view, at, way);
    }

    int ruin(int view) {
        return call("ruin", view);
    }

    int settled(int rule, int coins) {
        return call("settled", rule, coins);
    }

    int needed() {
        return call("needed");
    }

    int since(int view) {
        return call("since", view);
    }
}
