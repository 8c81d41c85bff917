import java.util.ArrayList;
import java.util.List;

/**
 * All that can be seen of an object behind a run of calls, also behind the ways by which its text, its slots and its
 * history come to light. Looks are calls, too, and nothing is promised behind the 512th: so they are spread over as
 * many objects as they need, each one brought there by the same run.
 */
final class Sight {
    private static final List<List<Call>> WAYS = ways();
    private static final int SNAPSHOTS = 14;
    private static final int HISTORY = 15;

    private final List<List<Call>> ways = new ArrayList<>();
    private final List<Call> looks = new ArrayList<>();
    private final List<Integer> answers = new ArrayList<>();

    private Sight() {
    }

    /** Room is the number of calls that an object can still take behind the run. */
    static Sight ofAll(List<Call> run, int room) {
        Sight sight = new Sight();
        for (List<Call> way : WAYS) {
            sight.lookBehind(run, way, planned(endBehind(run, way)), room - way.size());
        }
        return sight;
    }

    /** What a state holds, and the text: no slots, no history. */
    static Sight ofState(List<Call> run, int room) {
        Sight sight = new Sight();
        List<Call> looks = planned(endBehind(run, List.of()));
        looks.removeIf(look -> look.isCountOf(SNAPSHOTS) || look.isCountOf(HISTORY));
        sight.lookBehind(run, List.of(), looks, room);
        return sight;
    }

    /** The first look that answers otherwise in another sight, or null if both are the same. */
    String difference(Sight other) {
        for (int i = 0; i < Math.max(answers.size(), other.answers.size()); i++) {
            if (i >= answers.size() || i >= other.answers.size()) {
                return "there is more to see";
            }
            if (!answers.get(i).equals(other.answers.get(i))) {
                return ways.get(i) + " " + looks.get(i) + " is " + answers.get(i) + " or " + other.answers.get(i);
            }
        }
        return null;
    }

    private static int endBehind(List<Call> run, List<Call> way) {
        return new Call("count", 0).on(brought(run, way));
    }

    private void lookBehind(List<Call> run, List<Call> way, List<Call> planned, int room) {
        for (int from = 0; room > 0 && from < planned.size(); from += room) {
            DebtorViews x = brought(run, way);
            for (int i = from; i < Math.min(from + room, planned.size()); i++) {
                ways.add(way);
                looks.add(planned.get(i));
                answers.add(planned.get(i).on(x));
            }
        }
    }

    private static DebtorViews brought(List<Call> run, List<Call> way) {
        DebtorViews x = new DebtorViews();
        for (Call call : run) {
            call.on(x);
        }
        for (Call call : way) {
            call.on(x);
        }
        return x;
    }

    private static List<List<Call>> ways() {
        Call undo = new Call("undo");
        Call define = new Call("define");
        return List.of(
            List.of(),
            List.of(define),
            List.of(new Call("append", '2'), define),
            List.of(new Call("append", '-'), new Call("append", '9'), define),
            foundingOfAll(),
            List.of(new Call("restore", 0)),
            List.of(new Call("restore", 1)),
            List.of(undo),
            List.of(undo, undo),
            List.of(undo, undo, undo),
            List.of(undo, undo, undo, undo),
            List.of(undo, undo, undo, undo, undo),
            List.of(undo, new Call("restore", 0)),
            List.of(undo, new Call("restore", 1)));
    }

    /** What founding costs cannot be looked at. */
    private static List<Call> foundingOfAll() {
        List<Call> way = new ArrayList<>();
        way.add(new Call("grant", 999));
        for (int view = 0; view < 8; view++) {
            way.add(new Call("found", view));
        }
        return way;
    }

    private static List<Call> planned(int end) {
        List<Call> planned = new ArrayList<>();
        for (int what = 0; what <= 22; what++) {
            planned.add(new Call("count", what));
        }
        for (int view = 0; view < 8; view++) {
            for (int what = 0; what <= 9; what++) {
                planned.add(new Call("view", view, what));
            }
            planned.add(new Call("kept", view));
            planned.add(new Call("ask", view, end, 0));
            planned.add(new Call("ask", view, end, 1));
            planned.add(new Call("ruin", view));
            planned.add(new Call("since", view));
        }
        planned.add(new Call("needed"));
        for (int rule = 0; rule <= 2; rule++) {
            planned.add(new Call("settled", rule, 12));
            planned.add(new Call("settled", rule, 9999));
        }
        for (int change = 0; change < end; change++) {
            for (int what = 0; what <= 3; what++) {
                planned.add(new Call("change", change, what));
            }
        }
        for (int key = 0; key < 12; key++) {
            planned.add(new Call("value", 0, key, end));
            planned.add(new Call("value", 1, key, end));
        }
        return planned;
    }
}
