import java.util.ArrayList;
import java.util.List;

/** The document told a second time, with the Java library and without any thrift, to compare the class with it. */
final class Model {
    private static final int INVALID = -100000001;
    private static final int ILLEGAL = -100000002;
    private static final int CAPACITY = -100000003;
    private static final int NONE = -100000009;
    private static final int[][] RANGES = {{0, 20}, {1, 20}, {0, 500}, {0, 100}, {0, 1}, {0, 2}};

    record Change(int table, int key, int value) {
    }

    static final class Debtor implements Cloneable {
        int number;
        int kind;
        int table;
        int one;
        int two;
        boolean bankrupt;
        int place;
        int answer;
        int debt;
        int spent;

        Debtor copy() {
            try {
                return (Debtor) clone();
            } catch (CloneNotSupportedException e) {
                throw new IllegalStateException(e);
            }
        }
    }

    static final class World {
        List<Change> log = new ArrayList<>();
        List<Debtor> debtors = new ArrayList<>();
        int defined;
        int[] settings = {1, 2, 30, 5, 0, 0};
        int treasury;
        int in;
        int onDebts;
        int onArrears;
        int onFounding;
        int writtenOff;
        int ticks;

        World copy() {
            World w = new World();
            w.log.addAll(log);
            for (Debtor d : debtors) {
                w.debtors.add(d.copy());
            }
            w.defined = defined;
            w.settings = settings.clone();
            w.treasury = treasury;
            w.in = in;
            w.onDebts = onDebts;
            w.onArrears = onArrears;
            w.onFounding = onFounding;
            w.writtenOff = writtenOff;
            w.ticks = ticks;
            return w;
        }

        Debtor debtor(int number) {
            for (Debtor d : debtors) {
                if (d.number == number) {
                    return d;
                }
            }
            return null;
        }

        Integer valueAt(int table, int key, int at) {
            Integer value = null;
            for (Change c : log.subList(0, at)) {
                if (c.table == table && c.key == key) {
                    value = c.value == -1 ? null : c.value;
                }
            }
            return value;
        }

        int answer(Debtor d, int at) {
            if (d.kind == 4) {
                return answer(debtor(d.one), at) - answer(debtor(d.two), at);
            }
            List<Integer> found = new ArrayList<>();
            for (int key = d.one; key <= d.two; key++) {
                Integer a = valueAt(0, key, at);
                Integer b = valueAt(1, key, at);
                Integer own = d.table == 0 ? a : b;
                if (d.kind == 3 && a != null && b != null) {
                    found.add(a * b);
                }
                if (d.kind != 3 && own != null) {
                    found.add(own);
                }
            }
            return switch (d.kind) {
                case 1 -> found.size();
                case 2 -> found.stream().mapToInt(v -> v).max().orElse(-1);
                default -> found.stream().mapToInt(v -> v).sum();
            };
        }

        boolean concerns(Change c, Debtor d) {
            if (d.kind == 4) {
                return concerns(c, debtor(d.one)) || concerns(c, debtor(d.two));
            }
            return c.key >= d.one && c.key <= d.two && (d.kind == 3 || c.table == d.table);
        }

        List<Integer> arrears(Debtor d) {
            List<Integer> arrears = new ArrayList<>();
            if (!d.bankrupt) {
                for (int i = d.place; i < log.size(); i++) {
                    if (concerns(log.get(i), d)) {
                        arrears.add(i);
                    }
                }
            }
            return arrears;
        }

        int price(Debtor d) {
            return d.kind >= 3 ? 2 * settings[1] : settings[1];
        }

        int need(Debtor d) {
            return d.debt + price(d) * arrears(d).size();
        }

        int cost(Debtor d) {
            return d.kind == 4
                    ? cost(debtor(d.one)) + cost(debtor(d.two))
                    : 3 * settings[1] * (d.two - d.one + 1);
        }

        void stand(Debtor d, int place) {
            d.place = place;
            d.answer = answer(d, place);
        }

        int pay(Debtor d, int coins) {
            int left = Math.min(coins, treasury);
            int budget = left;
            if (settings[4] == 0) {
                left = payDebt(d, left);
            }
            List<Integer> arrears = arrears(d);
            while (!arrears.isEmpty() && left >= price(d)) {
                arrears.remove(0);
                left -= price(d);
                onArrears += price(d);
            }
            stand(d, arrears.isEmpty() ? log.size() : arrears.get(0));
            if (settings[4] == 1) {
                left = payDebt(d, left);
            }
            treasury -= budget - left;
            d.spent += budget - left;
            return budget - left;
        }

        private int payDebt(Debtor d, int coins) {
            int left = coins;
            while (left > 0 && d.debt > 0) {
                left--;
                d.debt--;
                onDebts++;
            }
            return left;
        }

        int payAll(int rule) {
            List<Debtor> order = new ArrayList<>();
            for (Debtor d : debtors) {
                if (!d.bankrupt) {
                    order.add(d);
                }
            }
            // A stable sort keeps those with smaller numbers ahead.
            if (rule == 1) {
                order.sort((a, b) -> b.debt - a.debt);
            }
            if (rule == 2) {
                order.sort((a, b) -> need(a) - need(b));
            }
            int spent = 0;
            for (Debtor d : order) {
                spent += pay(d, treasury);
            }
            return spent;
        }

        int tick() {
            int ruined = 0;
            for (Debtor d : debtors) {
                if (!d.bankrupt) {
                    d.debt += settings[0] * arrears(d).size();
                    if (d.debt > settings[2]) {
                        writtenOff += d.debt;
                        d.debt = 0;
                        d.bankrupt = true;
                        ruined |= 1 << d.number;
                    }
                }
            }
            treasury += settings[3];
            in += settings[3];
            ticks++;
            return ruined;
        }
    }

    private World world = new World();
    private World[] slots = new World[2];
    private final StringBuilder text = new StringBuilder();
    private final List<Object[]> history = new ArrayList<>();

    private void record() {
        history.add(new Object[] {world.copy(), slots[0], slots[1]});
        if (history.size() > 5) {
            history.remove(0);
        }
    }

    private static boolean in(int number, int least, int most) {
        return number >= least && number <= most;
    }

    int put(int table, int key, int value) {
        if (!in(table, 0, 1) || !in(key, 0, 11) || !in(value, -1, 99)) {
            return INVALID;
        }
        if (world.log.size() == 200) {
            return CAPACITY;
        }
        record();
        world.log.add(new Change(table, key, value));
        return world.log.size() - 1;
    }

    int define() {
        List<String> tokens = new ArrayList<>();
        List<Integer> starts = new ArrayList<>();
        java.util.regex.Matcher m = java.util.regex.Pattern.compile("[a-z]+|[0-9]+|[^ ]", java.util.regex.Pattern.DOTALL)
                .matcher(text);
        while (m.find()) {
            tokens.add(m.group());
            starts.add(m.start());
        }
        String number = "[0-9]|[1-9][0-9]";
        String[][] forms = {
            {"sum", "a|b", number, "-", number}, {"count", "a|b", number, "-", number},
            {"most", "a|b", number, "-", number}, {"join", number, "-", number}, {"less", number, number}};
        int best = 0;
        int kind = -1;
        for (int i = 0; i < forms.length; i++) {
            int fits = 0;
            while (fits < forms[i].length && fits < tokens.size() && tokens.get(fits).matches(forms[i][fits])) {
                fits++;
            }
            best = Math.max(best, fits);
            if (fits == forms[i].length && fits == tokens.size()) {
                kind = i;
            }
        }
        if (kind < 0) {
            return -1000 - (best < tokens.size() ? starts.get(best) : text.length());
        }
        Debtor d = new Debtor();
        d.number = world.defined;
        d.kind = kind;
        d.table = tokens.get(1).equals("b") ? 1 : 0;
        d.two = Integer.parseInt(tokens.get(tokens.size() - 1));
        d.one = Integer.parseInt(tokens.get(tokens.size() - (kind == 4 ? 2 : 3)));
        if (kind == 4 ? d.one == d.two || world.debtor(d.one) == null || world.debtor(d.two) == null
                : d.one > d.two || d.two > 11) {
            return INVALID;
        }
        if (world.defined == 8) {
            return CAPACITY;
        }
        record();
        world.defined++;
        world.debtors.add(d);
        world.stand(d, world.log.size());
        text.setLength(0);
        return d.number;
    }

    int drop(int view) {
        Debtor d = world.debtor(view);
        if (d == null) {
            return INVALID;
        }
        for (Debtor other : world.debtors) {
            if (other.kind == 4 && (other.one == view || other.two == view)) {
                return ILLEGAL;
            }
        }
        record();
        world.debtors.remove(d);
        return world.debtors.size();
    }

    int set(int what, int value) {
        if (!in(what, 0, 5) || !in(value, RANGES[what][0], RANGES[what][1])) {
            return INVALID;
        }
        record();
        int previous = world.settings[what];
        world.settings[what] = value;
        return previous;
    }

    int grant(int coins) {
        if (!in(coins, 1, 999)) {
            return INVALID;
        }
        if (world.treasury + coins > 9999) {
            return CAPACITY;
        }
        record();
        world.treasury += coins;
        world.in += coins;
        return world.treasury;
    }

    int tick() {
        if (world.treasury + world.settings[3] > 9999) {
            return CAPACITY;
        }
        record();
        return world.tick();
    }

    int pay(int view, int coins) {
        Debtor d = world.debtor(view);
        if (d == null || !in(coins, 1, 999)) {
            return INVALID;
        }
        if (d.bankrupt || world.treasury == 0) {
            return ILLEGAL;
        }
        record();
        return world.pay(d, coins);
    }

    int payAll() {
        if (world.treasury == 0) {
            return ILLEGAL;
        }
        record();
        return world.payAll(world.settings[5]);
    }

    int found(int view) {
        Debtor d = world.debtor(view);
        if (d == null) {
            return INVALID;
        }
        int cost = world.cost(d);
        if (!d.bankrupt || world.treasury < cost) {
            return ILLEGAL;
        }
        record();
        world.treasury -= cost;
        world.onFounding += cost;
        d.spent += cost;
        d.bankrupt = false;
        world.stand(d, world.log.size());
        return cost;
    }

    int take(int slot) {
        if (!in(slot, 0, 1)) {
            return INVALID;
        }
        record();
        slots[slot] = world.copy();
        return world.log.size();
    }

    int restore(int slot) {
        if (!in(slot, 0, 1)) {
            return INVALID;
        }
        if (slots[slot] == null) {
            return ILLEGAL;
        }
        record();
        world = slots[slot].copy();
        return world.log.size();
    }

    int undo() {
        if (history.isEmpty()) {
            return ILLEGAL;
        }
        Object[] state = history.remove(history.size() - 1);
        world = (World) state[0];
        slots[0] = (World) state[1];
        slots[1] = (World) state[2];
        return history.size();
    }

    int append(int character) {
        if (!in(character, 1, 255)) {
            return INVALID;
        }
        if (text.length() == 40) {
            return CAPACITY;
        }
        return text.append((char) character).length();
    }

    int clearText() {
        int length = text.length();
        text.setLength(0);
        return length;
    }

    private int setOf(java.util.function.Predicate<Debtor> holds) {
        int set = 0;
        for (Debtor d : world.debtors) {
            set |= holds.test(d) ? 1 << d.number : 0;
        }
        return set;
    }

    int count(int what) {
        if (!in(what, 0, 22)) {
            return INVALID;
        }
        return switch (what) {
            case 0 -> world.log.size();
            case 1 -> world.debtors.size();
            case 2 -> world.defined;
            case 3 -> setOf(d -> true);
            case 4 -> setOf(d -> d.bankrupt);
            case 5 -> setOf(d -> !world.arrears(d).isEmpty());
            case 6 -> world.treasury;
            case 7 -> world.in;
            case 8 -> world.onDebts;
            case 9 -> world.onArrears;
            case 10 -> world.onFounding;
            case 11 -> world.writtenOff;
            case 12 -> world.debtors.stream().mapToInt(d -> d.debt).sum();
            case 13 -> world.ticks;
            case 14 -> (slots[0] == null ? 0 : 1) + (slots[1] == null ? 0 : 1);
            case 15 -> history.size();
            case 16 -> text.length();
            default -> world.settings[what - 17];
        };
    }

    int value(int table, int key, int at) {
        if (!in(table, 0, 1) || !in(key, 0, 11) || !in(at, 0, world.log.size())) {
            return INVALID;
        }
        Integer value = world.valueAt(table, key, at);
        return value == null ? NONE : value;
    }

    int change(int change, int what) {
        if (!in(change, 0, world.log.size() - 1) || !in(what, 0, 3)) {
            return INVALID;
        }
        Change c = world.log.get(change);
        return switch (what) {
            case 0 -> c.table;
            case 1 -> c.key;
            case 2 -> c.value;
            default -> setOf(d -> world.concerns(c, d));
        };
    }

    int view(int view, int what) {
        Debtor d = world.debtor(view);
        if (d == null || !in(what, 0, 9)) {
            return INVALID;
        }
        return switch (what) {
            case 0 -> d.kind;
            case 1 -> d.kind >= 3 ? NONE : d.table;
            case 2 -> d.one;
            case 3 -> d.two;
            case 4 -> d.bankrupt ? 1 : 0;
            case 5 -> d.bankrupt ? NONE : d.place;
            case 6 -> world.arrears(d).size();
            case 7 -> d.debt;
            case 8 -> world.need(d);
            default -> d.spent;
        };
    }

    int kept(int view) {
        Debtor d = world.debtor(view);
        if (d == null) {
            return INVALID;
        }
        return d.bankrupt ? ILLEGAL : d.answer;
    }

    int ask(int view, int at, int way) {
        Debtor d = world.debtor(view);
        if (d == null || !in(at, 0, world.log.size()) || !in(way, 0, 1)) {
            return INVALID;
        }
        return world.answer(d, at);
    }

    int ruin(int view) {
        Debtor d = world.debtor(view);
        if (d == null) {
            return INVALID;
        }
        if (d.bankrupt) {
            return ILLEGAL;
        }
        World future = world.copy();
        for (int n = 1; n <= 1000; n++) {
            if ((future.tick() & 1 << view) != 0) {
                return n;
            }
        }
        return NONE;
    }

    int settled(int rule, int coins) {
        if (!in(rule, 0, 2) || !in(coins, 1, 9999)) {
            return INVALID;
        }
        World future = world.copy();
        future.treasury = coins;
        future.payAll(rule);
        int set = 0;
        for (Debtor d : future.debtors) {
            set |= !d.bankrupt && d.debt == 0 && future.arrears(d).isEmpty() ? 1 << d.number : 0;
        }
        return set;
    }

    int needed() {
        int coins = 0;
        for (Debtor d : world.debtors) {
            coins += d.bankrupt ? 0 : world.need(d);
        }
        return coins;
    }

    int since(int view) {
        Debtor d = world.debtor(view);
        if (d == null) {
            return INVALID;
        }
        int place = world.log.size();
        int answer = world.answer(d, place);
        while (place > 0 && world.answer(d, place - 1) == answer) {
            place--;
        }
        return place;
    }
}
