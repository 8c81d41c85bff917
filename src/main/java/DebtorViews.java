/** Views of two tables that fall into arrears, run up debts, and are paid out of one treasury. */
public final class DebtorViews {
    public static final int INVALID_ARGUMENT = -100000001;
    public static final int ILLEGAL_STATE = -100000002;
    public static final int CAPACITY_EXCEEDED = -100000003;
    public static final int NONE = -100000009;

    private static final int TABLES = 2;
    private static final int KEYS = 12;
    private static final int CELLS = TABLES * KEYS;
    private static final int NOTHING = -1;
    private static final int MOST_VALUE = 99;
    private static final int MOST_CHANGES = 200;
    private static final int MOST_VIEWS = 8;
    private static final int MOST_COINS = 999;
    private static final int MOST_TREASURY = 9999;
    private static final int MOST_TEXT = 40;
    private static final int MOST_CHARACTER = 255;
    private static final int SLOTS = 2;
    private static final int MOST_STATES = 5;
    private static final int MOST_TICKS = 1000;
    private static final int FOUNDING_PRICES = 3;
    private static final int FAULT_BASE = -1000;

    private static final int SUM = 0;
    private static final int COUNT = 1;
    private static final int MOST = 2;
    private static final int JOIN = 3;
    private static final int LESS = 4;
    private static final int KINDS = 5;

    private static final int RATE = 0;
    private static final int PRICE = 1;
    private static final int LIMIT = 2;
    private static final int INCOME = 3;
    private static final int ORDER = 4;
    private static final int RULE = 5;
    private static final int SETTINGS = 6;
    private static final int[] LEAST_SETTING = {0, 1, 0, 0, 0, 0};
    private static final int[] MOST_SETTING = {20, 20, 500, 100, 1, 2};
    private static final int[] FIRST_SETTING = {1, 2, 30, 5, 0, 0};

    private static final int DEBTS_FIRST = 0;
    private static final int GREATEST_DEBT = 1;
    private static final int LEAST_NEED = 2;

    private static final int ALL = 0;
    private static final int BANKRUPT = 1;
    private static final int SOLVENT = 2;
    private static final int IN_ARREARS = 3;
    private static final int SETTLED = 4;

    private static final int BY_TABLES = 0;
    private static final int BY_CHANGES = 1;

    private static final int FIRST_SETTING_COUNT = 17;
    private static final int LAST_COUNT = FIRST_SETTING_COUNT + SETTINGS - 1;
    private static final int LAST_OF_CHANGE = 3;
    private static final int LAST_OF_VIEW = 9;

    private final Reader reader = new Reader();
    private final State state = new State();
    private final History history = new History();
    private final Replay replay = new Replay();
    private final Books forecast = new Books();

    public DebtorViews() {
    }

    // ---- tables and views

    public int put(int table, int key, int value) {
        if (!isCell(table, key) || value < NOTHING || value > MOST_VALUE) {
            return INVALID_ARGUMENT;
        }
        Log log = state.books.log;
        if (log.isFull()) {
            return CAPACITY_EXCEEDED;
        }
        history.record(state);
        return log.add(cellOf(table, key), value);
    }

    public int define() {
        reader.read();
        if (reader.hasFault()) {
            return FAULT_BASE - reader.fault;
        }
        Books books = state.books;
        if (!books.allows(reader.kind, reader.first, reader.last)) {
            return INVALID_ARGUMENT;
        }
        if (books.defined >= MOST_VIEWS) {
            return CAPACITY_EXCEEDED;
        }
        history.record(state);
        reader.text.empty();
        return books.addView(reader.kind, reader.table, reader.first, reader.last);
    }

    public int drop(int view) {
        Books books = state.books;
        View dropped = books.find(view);
        if (dropped == null) {
            return INVALID_ARGUMENT;
        }
        if (books.isPart(view)) {
            return ILLEGAL_STATE;
        }
        history.record(state);
        dropped.exists = false;
        return Integer.bitCount(books.setOf(ALL));
    }

    public int set(int what, int value) {
        if (!isSetting(what, value)) {
            return INVALID_ARGUMENT;
        }
        history.record(state);
        int previous = state.books.setting(what);
        state.books.changeSetting(what, value);
        return previous;
    }

    // ---- money

    public int grant(int coins) {
        if (coins < 1 || coins > MOST_COINS) {
            return INVALID_ARGUMENT;
        }
        Books books = state.books;
        if (books.treasury + coins > MOST_TREASURY) {
            return CAPACITY_EXCEEDED;
        }
        history.record(state);
        books.receive(coins);
        return books.treasury;
    }

    public int tick() {
        Books books = state.books;
        if (books.treasury + books.setting(INCOME) > MOST_TREASURY) {
            return CAPACITY_EXCEEDED;
        }
        history.record(state);
        return books.passTick();
    }

    public int pay(int view, int coins) {
        Books books = state.books;
        View paid = books.find(view);
        if (paid == null || coins < 1 || coins > MOST_COINS) {
            return INVALID_ARGUMENT;
        }
        if (paid.bankrupt || books.treasury == 0) {
            return ILLEGAL_STATE;
        }
        history.record(state);
        return books.payOne(paid, coins);
    }

    public int payAll() {
        Books books = state.books;
        if (books.treasury == 0) {
            return ILLEGAL_STATE;
        }
        history.record(state);
        return books.payEvery();
    }

    public int found(int view) {
        Books books = state.books;
        View founded = books.find(view);
        if (founded == null) {
            return INVALID_ARGUMENT;
        }
        int cost = books.foundingCost(founded);
        if (!founded.bankrupt || books.treasury < cost) {
            return ILLEGAL_STATE;
        }
        history.record(state);
        books.foundAnew(founded, cost);
        return cost;
    }

    // ---- snapshots

    public int take(int slot) {
        if (slot < 0 || slot >= SLOTS) {
            return INVALID_ARGUMENT;
        }
        history.record(state);
        state.keepIn(slot, state.books);
        return state.books.log.end;
    }

    public int restore(int slot) {
        if (slot < 0 || slot >= SLOTS) {
            return INVALID_ARGUMENT;
        }
        if (!state.isTaken(slot)) {
            return ILLEGAL_STATE;
        }
        history.record(state);
        state.bringBack(slot);
        return state.books.log.end;
    }

    public int undo() {
        if (history.size == 0) {
            return ILLEGAL_STATE;
        }
        history.removeLatestInto(state);
        return history.size;
    }

    // ---- text

    public int append(int character) {
        if (character < 1 || character > MOST_CHARACTER) {
            return INVALID_ARGUMENT;
        }
        if (reader.text.isFull()) {
            return CAPACITY_EXCEEDED;
        }
        reader.text.add(character);
        return reader.text.length;
    }

    public int clearText() {
        int previous = reader.text.length;
        reader.text.empty();
        return previous;
    }

    // ---- looking

    public int count(int what) {
        if (what < 0 || what > LAST_COUNT) {
            return INVALID_ARGUMENT;
        }
        Books books = state.books;
        switch (what) {
            case 0: return books.log.end;
            case 1: return Integer.bitCount(books.setOf(ALL));
            case 2: return books.defined;
            case 3: return books.setOf(ALL);
            case 4: return books.setOf(BANKRUPT);
            case 5: return books.setOf(IN_ARREARS);
            case 6: return books.treasury;
            case 7: return books.received;
            case 8: return books.spentOnDebts;
            case 9: return books.spentOnArrears;
            case 10: return books.spentOnFounding;
            case 11: return books.writtenOff;
            case 12: return books.allDebts();
            case 13: return books.ticks;
            case 14: return state.snapshots();
            case 15: return history.size;
            case 16: return reader.text.length;
            default: return books.setting(what - FIRST_SETTING_COUNT);
        }
    }

    public int value(int table, int key, int at) {
        Log log = state.books.log;
        if (!isCell(table, key) || at < 0 || at > log.end) {
            return INVALID_ARGUMENT;
        }
        int value = log.valueAt(cellOf(table, key), at);
        return value == NOTHING ? NONE : value;
    }

    public int change(int change, int what) {
        Log log = state.books.log;
        if (change < 0 || change >= log.end || what < 0 || what > LAST_OF_CHANGE) {
            return INVALID_ARGUMENT;
        }
        int cell = log.cell(change);
        switch (what) {
            case 0: return cell / KEYS;
            case 1: return cell % KEYS;
            case 2: return log.newValue(change);
            default: return state.books.concernedBy(cell);
        }
    }

    public int view(int view, int what) {
        Books books = state.books;
        View told = books.find(view);
        if (told == null || what < 0 || what > LAST_OF_VIEW) {
            return INVALID_ARGUMENT;
        }
        switch (what) {
            case 0: return told.kind;
            case 1: return told.hasTable() ? told.table : NONE;
            case 2: return told.first;
            case 3: return told.last;
            case 4: return told.bankrupt ? 1 : 0;
            case 5: return told.bankrupt ? NONE : told.place;
            case 6: return books.arrears(told);
            case 7: return told.debt;
            case 8: return books.need(told);
            default: return told.spent;
        }
    }

    public int kept(int view) {
        View asked = state.books.find(view);
        if (asked == null) {
            return INVALID_ARGUMENT;
        }
        if (asked.bankrupt) {
            return ILLEGAL_STATE;
        }
        // The log behind a view's place never changes, so the answer there needs no copy.
        return replay.answerByTables(state.books, view, asked.place);
    }

    public int ask(int view, int at, int way) {
        Books books = state.books;
        if (books.find(view) == null || at < 0 || at > books.log.end
                || (way != BY_TABLES && way != BY_CHANGES)) {
            return INVALID_ARGUMENT;
        }
        return way == BY_TABLES
                ? replay.answerByTables(books, view, at)
                : replay.answerByChanges(books, view, at);
    }

    // ---- what could be, which changes nothing

    public int ruin(int view) {
        Books books = state.books;
        View doomed = books.find(view);
        if (doomed == null) {
            return INVALID_ARGUMENT;
        }
        if (doomed.bankrupt) {
            return ILLEGAL_STATE;
        }
        int interest = books.interest(doomed);
        int limit = books.setting(LIMIT);
        int debt = doomed.debt;
        for (int ticks = 1; ticks <= MOST_TICKS; ticks++) {
            debt += interest;
            if (debt > limit) {
                return ticks;
            }
        }
        return NONE;
    }

    public int settled(int rule, int coins) {
        if (!isSetting(RULE, rule) || coins < 1 || coins > MOST_TREASURY) {
            return INVALID_ARGUMENT;
        }
        forecast.copyFrom(state.books);
        forecast.treasury = coins;
        forecast.changeSetting(RULE, rule);
        forecast.payEvery();
        return forecast.setOf(SETTLED);
    }

    public int needed() {
        // Nobody is paid more than is needed there, so the order of the payments does not matter.
        return state.books.allNeeds();
    }

    public int since(int view) {
        if (state.books.find(view) == null) {
            return INVALID_ARGUMENT;
        }
        return replay.lastTurn(state.books, view);
    }

    // ---- cells and settings

    private static boolean isCell(int table, int key) {
        return table >= 0 && table < TABLES && key >= 0 && key < KEYS;
    }

    /** A table and a key in one number, which is also a bit in the set of cells of a view. */
    private static int cellOf(int table, int key) {
        return table * KEYS + key;
    }

    private static boolean isSetting(int what, int value) {
        return what >= 0 && what < LEAST_SETTING.length && what < MOST_SETTING.length
                && value >= LEAST_SETTING[what] && value <= MOST_SETTING[what];
    }

    /** What a value adds to a sum or a product: none adds as much as 0. */
    private static int amount(int value) {
        return value == NOTHING ? 0 : value;
    }

    private static int presence(int value) {
        return value == NOTHING ? 0 : 1;
    }

    /** The changes of both tables, in the order in which they were made. */
    private static final class Log {
        private final int[] cells = new int[MOST_CHANGES];
        private final int[] values = new int[MOST_CHANGES];
        private int end;

        boolean isFull() {
            return end >= MOST_CHANGES;
        }

        int add(int cell, int value) {
            int change = end;
            if (change >= 0 && change < cells.length && change < values.length) {
                cells[change] = cell;
                values[change] = value;
                end = change + 1;
            }
            return change;
        }

        int cell(int change) {
            return change >= 0 && change < cells.length ? cells[change] : 0;
        }

        int newValue(int change) {
            return change >= 0 && change < values.length ? values[change] : NOTHING;
        }

        int valueAt(int cell, int at) {
            for (int change = at - 1; change >= 0; change--) {
                if (cell(change) == cell) {
                    return newValue(change);
                }
            }
            return NOTHING;
        }

        void copyFrom(Log other) {
            int length = other.end;
            if (length >= 0 && length <= cells.length && length <= values.length
                    && length <= other.cells.length && length <= other.values.length) {
                System.arraycopy(other.cells, 0, cells, 0, length);
                System.arraycopy(other.values, 0, values, 0, length);
                end = length;
            }
        }
    }

    /** What is at the keys of both tables at one place of the log. */
    private static final class Tables {
        private final int[] values = new int[CELLS];

        void empty() {
            for (int cell = 0; cell < values.length; cell++) {
                values[cell] = NOTHING;
            }
        }

        void assign(int cell, int value) {
            if (cell >= 0 && cell < values.length) {
                values[cell] = value;
            }
        }

        int at(int cell) {
            return cell >= 0 && cell < values.length ? values[cell] : NOTHING;
        }
    }

    /** A question, and the debtor that keeps its answer. */
    private static final class View {
        private boolean exists;
        private int kind;
        private int table;
        private int first;
        private int last;
        private int cells;
        private int keys;
        private boolean bankrupt;
        private int place;
        private int debt;
        private int spent;

        void pose(int newKind, int newTable, int newFirst, int newLast) {
            kind = newKind;
            table = newTable;
            first = newFirst;
            last = newLast;
        }

        /** What concerns the view, and what its founding costs, never change, so they are noted once. */
        void concern(int newCells, int newKeys) {
            cells = newCells;
            keys = newKeys;
        }

        void begin(int end) {
            exists = true;
            standAnew(end);
        }

        void standAnew(int end) {
            bankrupt = false;
            place = end;
            debt = 0;
        }

        void fail() {
            bankrupt = true;
            debt = 0;
        }

        boolean hasTable() {
            return kind == SUM || kind == COUNT || kind == MOST;
        }

        boolean isMadeOf(int view) {
            return kind == LESS && (first == view || last == view);
        }

        boolean isConcernedBy(int cell) {
            return cell >= 0 && cell < CELLS && (cells & (1 << cell)) != 0;
        }

        int rangeCells() {
            int range = ((1 << (last - first + 1)) - 1) << first;
            if (kind == JOIN) {
                return range << cellOf(0, 0) | range << cellOf(1, 0);
            }
            return range << cellOf(table, 0);
        }

        int rangeKeys() {
            return last - first + 1;
        }

        /** The answer for every kind but LESS. */
        int rangeAnswer(Tables tables) {
            int answer = kind == MOST ? NOTHING : 0;
            for (int key = first; key <= last && key < KEYS; key++) {
                int here = tables.at(cellOf(table, key));
                switch (kind) {
                    case SUM:
                        answer += amount(here);
                        break;
                    case COUNT:
                        answer += presence(here);
                        break;
                    case MOST:
                        answer = Math.max(answer, here);
                        break;
                    default:
                        answer += amount(tables.at(cellOf(0, key))) * amount(tables.at(cellOf(1, key)));
                        break;
                }
            }
            return answer;
        }

        /** The answer, for every kind but LESS, behind a change at a cell that concerns the view. */
        int revisedAnswer(int answer, int cell, int before, Tables tables) {
            int after = tables.at(cell);
            int growth = amount(after) - amount(before);
            switch (kind) {
                case SUM:
                    return answer + growth;
                case COUNT:
                    return answer + presence(after) - presence(before);
                case MOST:
                    if (after >= answer) {
                        return after;
                    }
                    return before == answer ? rangeAnswer(tables) : answer;
                default:
                    int otherCell = cell < KEYS ? cell + KEYS : cell - KEYS;
                    return answer + growth * amount(tables.at(otherCell));
            }
        }

        void copyFrom(View other) {
            exists = other.exists;
            pose(other.kind, other.table, other.first, other.last);
            concern(other.cells, other.keys);
            bankrupt = other.bankrupt;
            place = other.place;
            debt = other.debt;
            spent = other.spent;
        }
    }

    /** The log, the views, the settings and the accounts: what a snapshot keeps. */
    private static final class Books {
        private final Log log = new Log();
        private final View[] views = new View[MOST_VIEWS];
        private final int[] settings = new int[SETTINGS];
        private final int[] ranks = new int[MOST_VIEWS];
        private int defined;
        private int treasury;
        private int received;
        private int spentOnDebts;
        private int spentOnArrears;
        private int spentOnFounding;
        private int writtenOff;
        private int ticks;

        Books() {
            for (int number = 0; number < views.length; number++) {
                views[number] = new View();
            }
            for (int what = 0; what < settings.length && what < FIRST_SETTING.length; what++) {
                settings[what] = FIRST_SETTING[what];
            }
        }

        int setting(int what) {
            return what >= 0 && what < settings.length ? settings[what] : 0;
        }

        void changeSetting(int what, int value) {
            if (what >= 0 && what < settings.length) {
                settings[what] = value;
            }
        }

        // -- which views there are

        /** The view of a number, or null if there is no such view. */
        View find(int number) {
            if (number < 0 || number >= views.length) {
                return null;
            }
            View view = views[number];
            return view != null && view.exists ? view : null;
        }

        boolean allows(int kind, int first, int last) {
            if (kind == LESS) {
                return first != last && find(first) != null && find(last) != null;
            }
            return first <= last && last < KEYS;
        }

        int addView(int kind, int table, int first, int last) {
            int number = defined;
            if (number < 0 || number >= views.length || views[number] == null) {
                return CAPACITY_EXCEEDED;
            }
            View view = views[number];
            view.pose(kind, table, first, last);
            if (kind == LESS) {
                noteParts(view, find(first), find(last));
            } else {
                view.concern(view.rangeCells(), view.rangeKeys());
            }
            view.begin(log.end);
            defined = number + 1;
            return number;
        }

        private void noteParts(View view, View one, View other) {
            if (one != null && other != null) {
                view.concern(one.cells | other.cells, one.keys + other.keys);
            }
        }

        boolean isPart(int number) {
            for (int whole = 0; whole < MOST_VIEWS; whole++) {
                View view = find(whole);
                if (view != null && view.isMadeOf(number)) {
                    return true;
                }
            }
            return false;
        }

        int setOf(int which) {
            int set = 0;
            for (int number = 0; number < MOST_VIEWS; number++) {
                View view = find(number);
                if (view != null && belongs(view, which)) {
                    set |= 1 << number;
                }
            }
            return set;
        }

        private boolean belongs(View view, int which) {
            switch (which) {
                case BANKRUPT: return view.bankrupt;
                case SOLVENT: return !view.bankrupt;
                case IN_ARREARS: return arrears(view) > 0;
                case SETTLED: return !view.bankrupt && need(view) == 0;
                default: return true;
            }
        }

        int concernedBy(int cell) {
            int set = 0;
            for (int number = 0; number < MOST_VIEWS; number++) {
                View view = find(number);
                if (view != null && view.isConcernedBy(cell)) {
                    set |= 1 << number;
                }
            }
            return set;
        }

        // -- what they owe

        int arrears(View view) {
            if (view.bankrupt) {
                return 0;
            }
            int arrears = 0;
            for (int change = view.place; change < log.end; change++) {
                if (view.isConcernedBy(log.cell(change))) {
                    arrears++;
                }
            }
            return arrears;
        }

        int priceOfArrear(View view) {
            return view.hasTable() ? setting(PRICE) : 2 * setting(PRICE);
        }

        int need(View view) {
            return view.debt + arrears(view) * priceOfArrear(view);
        }

        int interest(View view) {
            return setting(RATE) * arrears(view);
        }

        int foundingCost(View view) {
            return FOUNDING_PRICES * setting(PRICE) * view.keys;
        }

        int allDebts() {
            int debts = 0;
            for (int number = 0; number < MOST_VIEWS; number++) {
                View view = find(number);
                if (view != null) {
                    debts += view.debt;
                }
            }
            return debts;
        }

        int allNeeds() {
            int needs = 0;
            for (int number = 0; number < MOST_VIEWS; number++) {
                View view = find(number);
                if (view != null) {
                    needs += need(view);
                }
            }
            return needs;
        }

        // -- what moves the money

        void receive(int coins) {
            treasury += coins;
            received += coins;
        }

        /** Returns the set of the views that become bankrupt. */
        int passTick() {
            int ruined = 0;
            for (int number = 0; number < MOST_VIEWS; number++) {
                View view = find(number);
                if (view == null || view.bankrupt) {
                    continue;
                }
                view.debt += interest(view);
                if (view.debt > setting(LIMIT)) {
                    writtenOff += view.debt;
                    view.fail();
                    ruined |= 1 << number;
                }
            }
            receive(setting(INCOME));
            ticks++;
            return ruined;
        }

        void spend(View view, int coins) {
            treasury -= coins;
            view.spent += coins;
        }

        /** Returns the coins that are spent. */
        int payOne(View view, int coins) {
            int left = Math.min(coins, treasury);
            int spent;
            if (setting(ORDER) == DEBTS_FIRST) {
                spent = payDebt(view, left);
                spent += payArrears(view, left - spent);
            } else {
                spent = payArrears(view, left);
                spent += payDebt(view, left - spent);
            }
            return spent;
        }

        private int payDebt(View view, int coins) {
            int paid = Math.min(coins, view.debt);
            view.debt -= paid;
            spentOnDebts += paid;
            spend(view, paid);
            return paid;
        }

        private int payArrears(View view, int coins) {
            int price = priceOfArrear(view);
            int paid = 0;
            int change = view.place;
            for (; change < log.end; change++) {
                if (view.isConcernedBy(log.cell(change))) {
                    if (paid + price > coins) {
                        break;
                    }
                    paid += price;
                }
            }
            view.place = change;
            spentOnArrears += paid;
            spend(view, paid);
            return paid;
        }

        /** Returns the coins that are spent. */
        int payEvery() {
            // Payments change debts and needs, and the order goes by those at the beginning.
            noteRanks();
            int waiting = setOf(SOLVENT);
            int spent = 0;
            for (int turn = 0; turn < MOST_VIEWS; turn++) {
                int number = nextOf(waiting);
                View view = find(number);
                if (view != null) {
                    spent += payOne(view, treasury);
                    waiting &= ~(1 << number);
                }
            }
            return spent;
        }

        private void noteRanks() {
            for (int number = 0; number < ranks.length; number++) {
                View view = find(number);
                ranks[number] = view == null ? 0 : rank(view);
            }
        }

        private int rank(View view) {
            switch (setting(RULE)) {
                case GREATEST_DEBT: return -view.debt;
                case LEAST_NEED: return need(view);
                default: return 0;
            }
        }

        /** The first one of least rank in a set, or NOTHING if the set is empty. */
        private int nextOf(int set) {
            int next = NOTHING;
            int least = 0;
            for (int number = 0; number < ranks.length; number++) {
                boolean waits = (set & (1 << number)) != 0;
                if (waits && (next == NOTHING || ranks[number] < least)) {
                    next = number;
                    least = ranks[number];
                }
            }
            return next;
        }

        void foundAnew(View view, int cost) {
            spentOnFounding += cost;
            spend(view, cost);
            view.standAnew(log.end);
        }

        void copyFrom(Books other) {
            log.copyFrom(other.log);
            for (int number = 0; number < views.length && number < other.views.length; number++) {
                if (views[number] != null && other.views[number] != null) {
                    views[number].copyFrom(other.views[number]);
                }
            }
            for (int what = 0; what < settings.length; what++) {
                settings[what] = other.setting(what);
            }
            defined = other.defined;
            treasury = other.treasury;
            received = other.received;
            spentOnDebts = other.spentOnDebts;
            spentOnArrears = other.spentOnArrears;
            spentOnFounding = other.spentOnFounding;
            writtenOff = other.writtenOff;
            ticks = other.ticks;
        }
    }

    /** The answers of all views, by ascending numbers, since a view is made of earlier ones. */
    private static final class Replay {
        private final Tables tables = new Tables();
        private final int[] answers = new int[MOST_VIEWS];

        int answerByTables(Books books, int view, int at) {
            tables.empty();
            for (int change = 0; change < at; change++) {
                tables.assign(books.log.cell(change), books.log.newValue(change));
            }
            askTables(books);
            return answer(view);
        }

        int answerByChanges(Books books, int view, int at) {
            begin(books);
            for (int change = 0; change < at; change++) {
                step(books, change);
            }
            return answer(view);
        }

        /** The place behind the last change that turned the answer into another one. */
        int lastTurn(Books books, int view) {
            begin(books);
            int turn = 0;
            for (int change = 0; change < books.log.end; change++) {
                int before = answer(view);
                step(books, change);
                if (answer(view) != before) {
                    turn = change + 1;
                }
            }
            return turn;
        }

        private void begin(Books books) {
            tables.empty();
            askTables(books);
        }

        private void askTables(Books books) {
            for (int number = 0; number < answers.length; number++) {
                View view = books.find(number);
                if (view != null) {
                    answers[number] = view.kind == LESS ? difference(view) : view.rangeAnswer(tables);
                }
            }
        }

        private void step(Books books, int change) {
            int cell = books.log.cell(change);
            int before = tables.at(cell);
            tables.assign(cell, books.log.newValue(change));
            for (int number = 0; number < answers.length; number++) {
                View view = books.find(number);
                if (view != null && view.isConcernedBy(cell)) {
                    answers[number] = view.kind == LESS
                            ? difference(view)
                            : view.revisedAnswer(answers[number], cell, before, tables);
                }
            }
        }

        private int difference(View view) {
            return answer(view.first) - answer(view.last);
        }

        private int answer(int number) {
            return number >= 0 && number < answers.length ? answers[number] : 0;
        }
    }

    /** The books and both slots: what a step of the history keeps. */
    private static final class State {
        private final Books books = new Books();
        private final Books[] slots = new Books[SLOTS];
        private final boolean[] taken = new boolean[SLOTS];

        State() {
            for (int slot = 0; slot < slots.length; slot++) {
                slots[slot] = new Books();
            }
        }

        boolean isTaken(int slot) {
            return slot >= 0 && slot < taken.length && taken[slot];
        }

        int snapshots() {
            int snapshots = 0;
            for (int slot = 0; slot < SLOTS; slot++) {
                if (isTaken(slot)) {
                    snapshots++;
                }
            }
            return snapshots;
        }

        void keepIn(int slot, Books kept) {
            if (slot >= 0 && slot < slots.length && slot < taken.length && slots[slot] != null) {
                slots[slot].copyFrom(kept);
                taken[slot] = true;
            }
        }

        void bringBack(int slot) {
            Books snapshot = snapshot(slot);
            if (snapshot != null) {
                books.copyFrom(snapshot);
            }
        }

        /** The books in a slot, or null if it is empty. */
        private Books snapshot(int slot) {
            return isTaken(slot) && slot < slots.length ? slots[slot] : null;
        }

        void copyFrom(State other) {
            books.copyFrom(other.books);
            for (int slot = 0; slot < taken.length; slot++) {
                taken[slot] = false;
                Books snapshot = other.snapshot(slot);
                if (snapshot != null) {
                    keepIn(slot, snapshot);
                }
            }
        }
    }

    /** The latest states, in a ring of rows that are used again. */
    private static final class History {
        private final State[] states = new State[MOST_STATES];
        private int oldest;
        private int size;

        History() {
            for (int index = 0; index < states.length; index++) {
                states[index] = new State();
            }
        }

        void record(State state) {
            if (size == MOST_STATES) {
                oldest = (oldest + 1) % MOST_STATES;
                size--;
            }
            State row = row(size);
            if (row != null) {
                row.copyFrom(state);
                size++;
            }
        }

        void removeLatestInto(State state) {
            State row = row(size - 1);
            if (row != null) {
                state.copyFrom(row);
                size--;
            }
        }

        /** The row of a state, 0 for the oldest one; null if there can be no such state. */
        private State row(int age) {
            int index = (oldest + age) % MOST_STATES;
            return age >= 0 && index >= 0 && index < states.length ? states[index] : null;
        }
    }

    /** The text, whose room stays the same when it is made empty. */
    private static final class Text {
        private final int[] characters = new int[MOST_TEXT];
        private int length;

        boolean isFull() {
            return length >= MOST_TEXT;
        }

        void add(int character) {
            if (length >= 0 && length < characters.length) {
                characters[length] = character;
                length++;
            }
        }

        void empty() {
            length = 0;
        }

        /** The character at an index, or 0 (which no text holds) behind the end. */
        int at(int index) {
            return index >= 0 && index < length && index < characters.length ? characters[index] : 0;
        }
    }

    /** Reads the text of a view token by token; behind its first fault it reads no further. */
    private static final class Reader {
        private static final int NO_FAULT = -1;

        private final Text text = new Text();
        private int start;
        private int next;
        private int fault = NO_FAULT;
        private int kind;
        private int table;
        private int first;
        private int last;

        void read() {
            next = 0;
            fault = NO_FAULT;
            kind = readKind();
            table = kind == JOIN || kind == LESS ? 0 : readTable();
            first = readNumber();
            if (kind != LESS) {
                readDash();
            }
            last = readNumber();
            readEnd();
        }

        boolean hasFault() {
            return fault != NO_FAULT;
        }

        private int readKind() {
            advance();
            for (int candidate = 0; candidate < KINDS; candidate++) {
                if (tokenIs(word(candidate))) {
                    return candidate;
                }
            }
            refuse();
            return SUM;
        }

        private int readTable() {
            advance();
            if (tokenIs("a")) {
                return 0;
            }
            if (!tokenIs("b")) {
                refuse();
            }
            return 1;
        }

        private int readNumber() {
            advance();
            int size = next - start;
            int head = text.at(start);
            if (!isDigit(head) || size > 2 || (size == 2 && head == '0')) {
                refuse();
                return 0;
            }
            int number = head - '0';
            return size == 1 ? number : number * 10 + text.at(start + 1) - '0';
        }

        private void readDash() {
            advance();
            if (!tokenIs("-")) {
                refuse();
            }
        }

        private void readEnd() {
            advance();
            if (start < text.length) {
                refuse();
            }
        }

        /** At the end the token is empty and starts there: that is the fault of a text that ends too early. */
        private void advance() {
            start = next;
            while (start < text.length && text.at(start) == ' ') {
                start++;
            }
            next = start;
            if (start < text.length) {
                next = start + 1;
                while (next < text.length && isSameRun(text.at(start), text.at(next))) {
                    next++;
                }
            }
        }

        private void refuse() {
            if (fault == NO_FAULT) {
                fault = start;
            }
        }

        private boolean tokenIs(String word) {
            if (next - start != word.length()) {
                return false;
            }
            for (int index = 0; index < word.length(); index++) {
                if (text.at(start + index) != word.charAt(index)) {
                    return false;
                }
            }
            return true;
        }

        private static String word(int kind) {
            switch (kind) {
                case SUM: return "sum";
                case COUNT: return "count";
                case MOST: return "most";
                case JOIN: return "join";
                default: return "less";
            }
        }

        private static boolean isSameRun(int one, int other) {
            return (isLetter(one) && isLetter(other)) || (isDigit(one) && isDigit(other));
        }

        private static boolean isLetter(int character) {
            return character >= 'a' && character <= 'z';
        }

        private static boolean isDigit(int character) {
            return character >= '0' && character <= '9';
        }
    }
}
