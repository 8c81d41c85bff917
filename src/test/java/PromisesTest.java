/** The boundaries that the promises name themselves, promise by promise and sentence by sentence. */
public final class PromisesTest {
    /** A view that is bankrupt, with an empty treasury. */
    private static final String BROKE = "view \"sum a 0-0\" = 0; set limit 0; set income 0; put 0 0 1 = 0; tick = 1; ";

    public static void main(String[] args) {
        newObject();
        put();
        define();
        drop();
        set();
        grant();
        tick();
        pay();
        payAll();
        found();
        takeAndRestore();
        undo();
        append();
        clearText();
        count();
        countOfMoney();
        value();
        change();
        view();
        kept();
        ask();
        ruin();
        settled();
        needed();
        since();
        Check.end("PromisesTest");
    }

    private static void newObject() {
        Script.sentence("Creates empty tables without views, an empty treasury, and an empty text.", """
            count 0 = 0; count 1 = 0; count 2 = 0; count 3 = 0; count 6 = 0; count 7 = 0; count 14 = 0; count 15 = 0; count 16 = 0
            value 0 0 0 = NONE; value 1 11 0 = NONE; view 0 0 = INVALID; payAll = ILLEGAL; define = fault 0; clearText = 0
            undo = ILLEGAL; restore 0 = ILLEGAL; restore 1 = ILLEGAL; needed = 0; settled 0 1 = 0; change 0 0 = INVALID
            """);
    }

    private static void put() {
        Script.sentence("which is a change in the log (also if it is there already)", """
            put 0 0 5 = 0; put 0 0 5 = 1; put 1 0 -1 = 2; count 0 = 3; change 1 2 = 5; change 2 2 = -1
            """, """
            view "sum a 0-0" = 0; put 0 0 -1 = 0; view 0 6 = 1; needed = 2; since 0 = 0
            """);
        Script.sentence("Returns the number of the change", """
            put 1 11 99 = 0; put 0 0 0 = 1; undo = 1; put 0 0 0 = 1; take 0 = 2; put 0 0 0 = 2; restore 0 = 2; put 0 0 0 = 2
            """);
        Script.sentence("CAPACITY_EXCEEDED if the log has 200 changes", """
            199 times put 0 0 1; put 0 0 1 = 199; put 0 0 1 = FULL; take 0 = 200; undo = 4; undo = 3; put 0 0 1 = 199
            """, """
            take 0 = 0; 200 times put 0 0 1; put 1 11 -1 = FULL; restore 0 = 0; put 1 11 -1 = 0
            """);
    }

    private static void define() {
        Script.sentence("Defines the view of the text, and makes the text empty.", """
            view "sum a 0-0" = 0; count 16 = 0; define = fault 0; clearText = 0; count 2 = 1
            """);
        Script.sentence("-1000 minus the fault of the text if it has one (which is an error)", """
            define = -1000; view "s" = -1000; clearText = 1; view "sum a 0-0 x" = -1010; count 16 = 11; count 2 = 0; count 15 = 0
            """, "39 times append 32; append 120; define = -1039; count 16 = 40",
            "40 times append 32; define = -1040; count 16 = 40; count 15 = 0");
        Script.sentence("INVALID_ARGUMENT if a key is above 11",
            "view \"sum a 0-11\" = 0", "view \"sum a 0-12\" = INVALID; count 16 = 10; count 15 = 0; count 2 = 0",
            "view \"sum b 11-11\" = 0", "view \"sum b 12-12\" = INVALID", "view \"sum b 11-12\" = INVALID",
            "view \"count a 0-99\" = INVALID", "view \"most a 99-99\" = INVALID", "view \"join 0-11\" = 0",
            "view \"join 0-12\" = INVALID", "view \"join 12-12\" = INVALID");
        Script.sentence("the first key of the range is above the last one",
            "view \"sum a 5-5\" = 0", "view \"sum a 6-5\" = INVALID; count 16 = 9; count 2 = 0", "view \"sum a 5-6\" = 0",
            "view \"count b 1-0\" = INVALID", "view \"most a 11-0\" = INVALID", "view \"join 11-10\" = INVALID",
            "view \"join 12-0\" = INVALID", "view \"sum a 99-12\" = INVALID", "view \"sum b 10-9\" = INVALID");
        Script.sentence("or there is no such view", """
            view "less 0 1" = INVALID; clearText = 8; view "sum a 0-0" = 0; view "less 0 1" = INVALID; clearText = 8
            view "less 1 0" = INVALID; clearText = 8; view "sum b 0-0" = 1; view "less 0 2" = INVALID; clearText = 8
            view "less 2 0" = INVALID; clearText = 8; view "less 0 99" = INVALID; clearText = 9; view "less 1 0" = 2
            drop 2 = 2; view "less 2 0" = INVALID; clearText = 8; drop 0 = 1; view "less 0 1" = INVALID; count 16 = 8
            """, """
            8 times view "sum a 0-0"; drop 3 = 7; view "less 0 8" = INVALID; clearText; view "less 8 0" = INVALID; clearText
            view "less 3 7" = INVALID; clearText; view "less 7 3" = INVALID; clearText; view "less 0 7" = FULL
            """);
        Script.sentence("or both are the same", """
            view "sum a 0-0" = 0; view "sum a 0-0" = 1; view "less 0 0" = INVALID; clearText; view "less 1 1" = INVALID; clearText
            view "less 0 1" = 2; view "less 2 2" = INVALID; count 1 = 3
            """);
        Script.sentence("CAPACITY_EXCEEDED if 8 views have been defined", """
            7 times view "sum a 0-0"; view "join 1-1" = 7; view "join 1-1" = FULL; count 16 = 8; undo = 4; define = 7; count 16 = 0
            """);
    }

    private static void drop() {
        Script.sentence("a debt that it has is gone, and is not counted as written off", """
            view "sum a 0-0" = 0; view "sum a 1-1" = 1; put 0 0 1; put 0 1 1; tick = 0; count 12 = 2
            drop 0 = 1; count 12 = 1; count 11 = 0; needed = 3; undo = 4; count 12 = 2
            """, """
            view "sum a 0-0" = 0; put 0 0 1; put 0 0 2; tick = 0; grant 20; pay 0 5 = 4; set rate 3; tick = 0; view 0 7 = 3; count 6 = 26
            drop 0 = 0; count 6 = 26; count 7 = 30; count 8 = 2; count 9 = 2; count 10 = 0; count 11 = 0; count 12 = 0
            """, BROKE + """
            grant 6; found 0 = 6; put 0 0 1; tick = 1; count 11 = 2; drop 0 = 0; count 6 = 0; count 10 = 6; count 11 = 2
            """);
        Script.sentence("Returns the number of views that are left", """
            8 times view "sum a 0-0"; drop 7 = 7; drop 0 = 6; drop 3 = 5; drop 4 = 4; drop 1 = 3; drop 2 = 2; drop 5 = 1
            drop 6 = 0; drop 6 = INVALID; count 1 = 0
            """, BROKE + "view \"sum b 0-0\" = 1; drop 0 = 1; drop 1 = 0");
        Script.sentence("INVALID_ARGUMENT if there is no such view", """
            drop 0 = INVALID; view "sum a 0-0" = 0; drop -1 = INVALID; drop 1 = INVALID; drop 8 = INVALID; drop MIN = INVALID
            drop MAX = INVALID; drop 0 = 0; drop 0 = INVALID
            """);
        Script.sentence("ILLEGAL_STATE if a view of the kind 4 is made of it", """
            view "sum a 0-0" = 0; view "sum b 0-0" = 1; view "sum b 1-1" = 2; view "less 0 1" = 3; view "less 3 0" = 4
            drop 0 = ILLEGAL; drop 1 = ILLEGAL; drop 3 = ILLEGAL; drop 2 = 4; drop 4 = 3; drop 0 = ILLEGAL; drop 3 = 2
            drop 1 = 1; drop 0 = 0
            """, """
            view "sum a 0-0" = 0; view "sum a 0-0" = 1; view "less 1 0" = 2; set limit 0; put 0 0 1; tick = 0b111
            drop 0 = ILLEGAL; drop 1 = ILLEGAL; drop 2 = 2; drop 1 = 1; drop 0 = 0
            """, """
            3 times view "sum a 0-0"; view "sum b 0-1" = 3; view "sum b 1-2" = 4; drop 0 = 4; drop 1 = 3; drop 2 = 2
            """, """
            6 times view "sum a 0-0"; view "less 4 0" = 6; view "less 5 6" = 7; drop 5 = ILLEGAL; drop 6 = ILLEGAL; drop 4 = ILLEGAL
            drop 0 = ILLEGAL; drop 7 = 7; drop 5 = 6; drop 4 = ILLEGAL; drop 6 = 5; drop 4 = 4; drop 0 = 3
            """);
    }

    private static void set() {
        Script.sentence("Returns the previous value", """
            set limit 500 = 30; set limit 500 = 500; set limit 0 = 500; set limit 7 = 0; count 19 = 7; count 15 = 4
            """);
        Script.sentence("what: 0 to 5", """
            set -1 1 = INVALID; set -1 0 = INVALID; set 6 1 = INVALID; set 6 0 = INVALID; set MIN 1 = INVALID; set MAX 1 = INVALID
            set 0 2 = 1; set 5 1 = 0; count 17 = 2; count 22 = 1; count 15 = 2
            """);
    }

    private static void grant() {
        Script.sentence("coins: 1 to 999", """
            grant 0 = INVALID; grant -1 = INVALID; grant 1000 = INVALID; grant MIN = INVALID; grant MAX = INVALID; count 7 = 0
            grant 1 = 1; grant 999 = 1000; count 6 = 1000; count 7 = 1000
            """);
        Script.sentence("CAPACITY_EXCEEDED if it would be above 9999", """
            10 times grant 999; grant 8 = 9998; grant 2 = FULL; grant 999 = FULL; grant 1 = 9999; grant 1 = FULL; count 6 = 9999
            count 7 = 9999; undo = 4; grant 1 = 9999
            """, "10 times grant 999; grant 10 = FULL; grant 9 = 9999", """
            view "sum a 0-0" = 0; set price 20; 50 times put 0 0 1; 10 times grant 999; grant 9 = 9999; pay 0 999 = 980; grant 1 = 9020
            grant 980 = FULL; grant 979 = 9999; count 7 = 10979
            """);
    }

    private static void tick() {
        Script.sentence("Returns the set of views that become bankrupt by it", """
            8 times view "sum a 0-0"; set limit 0; tick = 0; put 0 0 1; tick = 0b11111111; tick = 0
            """, """
            view "sum a 0-0" = 0; view "sum b 0-0" = 1; view "sum a 1-1" = 2; set limit 0; put 0 0 1; tick = 0b001
            put 0 1 1; put 0 0 1; tick = 0b100; count 4 = 0b101; put 1 0 1; drop 0 = 2; tick = 0b010; count 4 = 0b110
            """, "tick = 0");
        Script.sentence("CAPACITY_EXCEEDED if the treasury would be above 9999", """
            10 times grant 999; grant 4 = 9994; tick = 0; count 6 = 9999; tick = FULL; count 13 = 1; set income 0; tick = 0
            count 6 = 9999; count 13 = 2; count 7 = 9999
            """, """
            view "sum a 0-0" = 0; put 0 0 1; set limit 0; 10 times grant 999; grant 5 = 9995; tick = FULL; count 4 = 0; count 12 = 0
            count 11 = 0; count 13 = 0; set income 4; tick = 1; count 6 = 9999
            """, """
            set income 100; 9 times grant 999; grant 908 = 9899; tick = 0; count 6 = 9999; undo = 4; grant 1 = 9900; tick = FULL
            """, """
            view "sum a 0-0" = 0; put 0 0 1; set income 2; 10 times grant 999; grant 9 = 9999; tick = FULL; pay 0 9 = 2; tick = 0
            count 6 = 9999; count 7 = 10001; tick = FULL
            """);
    }

    private static void pay() {
        Script.sentence("coins: 1 to 999", """
            view "sum a 0-0" = 0; set price 20; 60 times put 0 0 1; 2 times grant 999
            pay 0 0 = INVALID; pay 0 1000 = INVALID; pay 0 -1 = INVALID; pay 0 MIN = INVALID; pay 0 MAX = INVALID
            pay 0 1 = 0; pay 0 999 = 980; pay 0 999 = 220; count 6 = 798
            """);
        Script.sentence("Returns the number of coins that are spent", """
            view "sum a 0-0" = 0; grant 9; pay 0 9 = 0; put 0 0 1; pay 0 1 = 0; tick = 0; pay 0 1 = 1; pay 0 9 = 2; pay 0 9 = 0
            count 8 = 1; count 9 = 2; count 6 = 11
            """);
        Script.sentence("INVALID_ARGUMENT if there is no such view or coins is out of range", """
            grant 9; pay 0 1 = INVALID; view "sum a 0-0" = 0; pay -1 1 = INVALID; pay 1 1 = INVALID; pay 8 1 = INVALID
            pay MIN 1 = INVALID; pay MAX 1 = INVALID; pay 0 1 = 0; drop 0 = 0; pay 0 1 = INVALID
            """);
        Script.sentence("ILLEGAL_STATE if it is bankrupt, or the treasury is empty", """
            view "sum a 0-0" = 0; put 1 0 1; pay 0 1 = ILLEGAL; view 0 5 = 0; put 0 0 1; pay 0 1 = ILLEGAL; view 0 5 = 0
            grant 2; pay 0 2 = 2; view 0 5 = 2; pay 0 1 = ILLEGAL; grant 1; pay 0 1 = 0
            """, BROKE + "pay 0 1 = ILLEGAL; grant 9; pay 0 1 = ILLEGAL; found 0 = 6; pay 0 1 = 0");
    }

    private static void payAll() {
        Script.sentence("ILLEGAL_STATE if the treasury is empty", """
            payAll = ILLEGAL; view "sum a 0-0" = 0; put 1 0 1; payAll = ILLEGAL; view 0 5 = 0; grant 1; payAll = 0; view 0 5 = 1
            count 15 = 4; put 0 0 1; set price 1; payAll = 1; payAll = ILLEGAL; count 15 = 5
            """);
        Script.sentence("Returns the number of coins that are spent", """
            view "sum a 0-0" = 0; view "join 0-0" = 1; put 0 0 1; tick = 0; grant 99; payAll = 8; payAll = 0; count 8 = 2
            count 9 = 6; count 6 = 96; view 0 9 = 3; view 1 9 = 5
            """);
    }

    private static void found() {
        Script.sentence("Returns what it costs", BROKE + "grant 9; found 0 = 6; count 6 = 3; count 10 = 6; view 0 9 = 6");
        Script.sentence("INVALID_ARGUMENT if there is no such view",
            "grant 99; found 0 = INVALID; " + BROKE + """
            found -1 = INVALID; found 1 = INVALID; found 8 = INVALID; found MIN = INVALID; found MAX = INVALID; drop 0 = 0
            found 0 = INVALID
            """, BROKE + "count 6 = 0; found 1 = INVALID; found 0 = ILLEGAL; drop 0 = 0; found 0 = INVALID; pay 0 1 = INVALID");
        Script.sentence("ILLEGAL_STATE if it is not bankrupt, or the treasury is less than that",
            "view \"sum a 0-0\" = 0; grant 99; found 0 = ILLEGAL; put 0 0 1; found 0 = ILLEGAL",
            BROKE + "found 0 = ILLEGAL; grant 5 = 5; found 0 = ILLEGAL; grant 1 = 6; found 0 = 6; found 0 = ILLEGAL; count 6 = 0",
            BROKE + "grant 7 = 7; found 0 = 6; count 6 = 1",
            BROKE + "grant 8 = 8; found 0 = 6; put 0 0 1; tick = 1; found 0 = ILLEGAL; grant 3 = 5; found 0 = ILLEGAL; grant 1 = 6; "
                + "found 0 = 6");
    }

    private static void takeAndRestore() {
        Script.sentence("Takes a snapshot, in place of one that is there.", """
            take 0 = 0; put 0 0 1; take 0 = 1; put 0 0 1; restore 0 = 1; take 1 = 1; restore 1 = 1; count 14 = 2
            """);
        Script.sentence("Returns the end of the log", "take 1 = 0; 200 times put 0 0 1; take 0 = 200; restore 1 = 0; restore 0 = 200");
        Script.sentence("INVALID_ARGUMENT if slot is out of range; ILLEGAL_STATE if the slot is empty", """
            take -1 = INVALID; take 2 = INVALID; restore -1 = INVALID; restore 2 = INVALID; restore 0 = ILLEGAL; restore 1 = ILLEGAL
            take 0 = 0; restore 1 = ILLEGAL; restore 0 = 0; undo = 1; undo = 0; restore 0 = ILLEGAL
            """);
    }

    private static void undo() {
        Script.sentence("Returns the number of states that are left in the history; ILLEGAL_STATE if it is empty.", """
            undo = ILLEGAL; grant 1; undo = 0; undo = ILLEGAL; 5 times grant 1; undo = 4; undo = 3; undo = 2; undo = 1; undo = 0
            undo = ILLEGAL
            """);
    }

    private static void append() {
        Script.sentence("character: character code, 1 to 255", """
            append 0 = INVALID; append -1 = INVALID; append 256 = INVALID; append MIN = INVALID; append MAX = INVALID; count 16 = 0
            append 1 = 1; append 255 = 2; append 128 = 3; count 16 = 3
            """);
        Script.sentence("CAPACITY_EXCEEDED if the text already has 40 characters", """
            39 times append 255; append 1 = 40; append 1 = FULL; append 97 = FULL; count 16 = 40; clearText = 40; append 1 = 1
            """, """
            31 times append 32; tell "sum b 0-1"; append 57 = FULL; append 32 = FULL; append 255 = FULL; define = 0; view 0 3 = 1
            """);
    }

    private static void clearText() {
        Script.sentence("Returns the previous length of the text.", """
            clearText = 0; append 97; clearText = 1; clearText = 0; 40 times append 97; clearText = 40; clearText = 0; count 16 = 0
            """);
    }

    private static void count() {
        Script.sentence("INVALID_ARGUMENT if what is out of range", """
            count -1 = INVALID; count 23 = INVALID; count MIN = INVALID; count MAX = INVALID; count 0 = 0; count 22 = 0
            """);
        Script.sentence("1 the number of views, 2 of views that have been defined, 3 the set of views", """
            8 times view "sum a 0-0"; count 1 = 8; count 2 = 8; count 3 = 0b11111111; drop 7; count 1 = 7; count 2 = 8
            count 3 = 0b01111111; drop 0; count 1 = 6; count 3 = 0b01111110
            """, """
            view "sum a 0-0" = 0; view "sum a 0-0" = 1; view "sum b 0-0" = 2; put 0 0 1; put 1 0 1; tick; set limit 1; tick = 0b111
            count 1 = 3; count 2 = 3; count 3 = 0b111; drop 1 = 2; count 1 = 2; count 3 = 0b101
            """);
        Script.sentence("4 the set of bankrupt views, 5 the set of views that have arrears", """
            view "sum a 0-0" = 0; view "sum b 0-0" = 1; view "sum a 1-1" = 2; count 4 = 0; count 5 = 0
            set limit 0; put 0 0 1; put 1 0 1; count 4 = 0; count 5 = 0b011; tick = 0b011; count 4 = 0b011; count 5 = 0
            put 0 1 1; put 0 0 1; count 5 = 0b100; drop 0 = 2; count 4 = 0b010; drop 2 = 1; count 5 = 0
            """, """
            8 times view "sum a 0-0"; set limit 0; put 0 0 1; count 5 = 0b11111111; drop 6 = 7; count 5 = 0b10111111
            tick = 0b10111111; count 4 = 0b10111111; count 5 = 0; drop 1 = 6; count 4 = 0b10111101; drop 7 = 5; count 4 = 0b00111101
            """, """
            view "sum a 0-0" = 0; put 0 0 1; tick = 0; count 5 = 1; set order 1; pay 0 2 = 2; view 0 7 = 1; count 5 = 0; count 12 = 1
            """);
        Script.sentence("13 the number of ticks, 14 of snapshots, 15 of states in the history, 16 the length of the text", """
            count 13 = 0; count 14 = 0; count 15 = 0; count 16 = 0; tick; tick; take 1; append 32; tick
            count 13 = 3; count 14 = 1; count 15 = 4; count 16 = 1; undo; count 13 = 2; restore 1; count 13 = 2
            """);
        Script.sentence("17 to 22 the settings 0 to 5", """
            count 17 = 1; count 18 = 2; count 19 = 30; count 20 = 5; count 21 = 0; count 22 = 0
            set rate 20; set price 19; set limit 500; set income 100; set order 1; set rule 2
            count 17 = 20; count 18 = 19; count 19 = 500; count 20 = 100; count 21 = 1; count 22 = 2
            """);
    }

    private static void countOfMoney() {
        Script.sentence("6 the treasury, 7 the coins that came into it so far, 8 spent on debts, 9 on arrears, 10 on founding", """
            view "sum a 0-0" = 0; view "sum a 1-1" = 1; put 0 0 1; put 0 1 1; grant 20; tick = 0; pay 0 9 = 3
            count 6 = 22; count 7 = 25; count 8 = 1; count 9 = 2; count 10 = 0; count 11 = 0; count 12 = 1
            set limit 1; tick = 0b10; found 1 = 6; count 6 = 21; count 7 = 30; count 8 = 1; count 9 = 2; count 10 = 6
            count 11 = 2; count 12 = 0; drop 0; drop 1; count 6 = 21; count 7 = 30; count 8 = 1; count 9 = 2; count 10 = 6
            """, """
            view "join 0-0" = 0; set price 20; 200 times put 0 0 1; 10 times grant 999; count 7 = 9990; payAll = 8000; count 6 = 1990
            8 times grant 999; count 6 = 9982; count 7 = 17982; count 9 = 8000; view 0 9 = 8000
            """, """
            view "sum a 0-0" = 0; 25 times put 0 0 1; set rate 20; set limit 500; tick = 0; grant 999; pay 0 999 = 550; undo
            set order 1; pay 0 500 = 500; count 8 = 450; count 9 = 50; view 0 7 = 50; count 6 = 504
            """);
        Script.sentence("11 the debts written off so far, 12 the sum of all debts", """
            view "sum a 0-0" = 0; view "sum a 0-0" = 1; 25 times put 0 0 1; set rate 20; set limit 500; count 12 = 0
            tick = 0; count 12 = 1000; count 11 = 0; tick = 0b11; count 12 = 0; count 11 = 2000; tick = 0; count 11 = 2000
            """);
    }

    private static void value() {
        Script.sentence("at: 0 to the end of the log", """
            value 0 0 0 = NONE; value 0 0 -1 = INVALID; value 0 0 1 = INVALID; put 0 0 7; value 0 0 0 = NONE; value 0 0 1 = 7
            value 0 0 2 = INVALID; undo; value 0 0 1 = INVALID
            """, "200 times put 0 0 7; value 0 0 200 = 7; value 0 0 201 = INVALID; value 1 0 200 = NONE");
        Script.sentence("NONE if there is none", "put 0 0 0; put 0 0 -1; value 0 0 0 = NONE; value 0 0 1 = 0; value 0 0 2 = NONE");
    }

    private static void change() {
        Script.sentence("Returns the value; INVALID_ARGUMENT if there is no such change or what is out of range", """
            change 0 0 = INVALID; change -1 0 = INVALID; put 1 11 99; change 0 0 = 1; change 0 1 = 11; change 0 2 = 99; change 0 3 = 0
            change 0 -1 = INVALID; change 0 4 = INVALID; change 0 MIN = INVALID; change 0 MAX = INVALID; change 1 0 = INVALID
            change -1 0 = INVALID; change MIN 0 = INVALID; change MAX 0 = INVALID; undo; change 0 0 = INVALID
            """, "200 times put 1 3 -1; change 199 0 = 1; change 199 1 = 3; change 199 2 = -1; change 200 0 = INVALID");
        Script.sentence("3 for the set of all views that there are now and that it concerns", """
            put 0 0 1; change 0 3 = 0; 8 times view "sum a 0-0"; change 0 3 = 0b11111111; drop 0; drop 7; change 0 3 = 0b01111110
            """, BROKE + "change 0 3 = 1; drop 0 = 0; change 0 3 = 0");
    }

    private static void view() {
        Script.sentence("INVALID_ARGUMENT if there is no such view or what is out of range", """
            view 0 0 = INVALID; view "sum a 0-0" = 0; view 0 -1 = INVALID; view 0 10 = INVALID; view 0 MIN = INVALID
            view 0 MAX = INVALID; view -1 0 = INVALID; view 1 0 = INVALID; view 8 0 = INVALID; view MIN 0 = INVALID
            view MAX 0 = INVALID; view 0 0 = 0; view 0 9 = 0; drop 0; view 0 0 = INVALID; view 0 9 = INVALID
            """);
        Script.sentence("1 its table (NONE for the kinds 3 and 4)", """
            view "sum a 0-0" = 0; view "count b 0-0" = 1; view "most b 0-0" = 2; view "join 0-0" = 3; view "less 1 3" = 4
            view 0 1 = 0; view 1 1 = 1; view 2 1 = 1; view 3 1 = NONE; view 4 1 = NONE; view 4 2 = 1; view 4 3 = 3
            """);
        Script.sentence("4 1 if it is bankrupt and 0 if not, 5 the place where it stands (NONE if it is bankrupt)", """
            view "sum a 0-0" = 0; view 0 4 = 0; view 0 5 = 0; set limit 0; put 0 0 1; view 0 5 = 0; grant 1; tick = 1
            view 0 4 = 1; view 0 5 = NONE; found 0 = 6; view 0 4 = 0; view 0 5 = 1
            """);
        Script.sentence("8 what is needed to settle the debt and all arrears", """
            view "sum a 0-0" = 0; view 0 8 = 0; put 0 0 1; view 0 8 = 2; tick = 0; view 0 8 = 3; set price 20; view 0 8 = 21
            set limit 0; tick = 1; view 0 8 = 0
            """);
        Script.sentence("9 the coins spent on it so far, founding it, too", """
            view "sum a 0-0" = 0; view 0 9 = 0; put 0 0 1; tick = 0; grant 20; pay 0 1 = 1; view 0 9 = 1; pay 0 2 = 2; view 0 9 = 3
            put 0 0 1; set limit 0; tick = 1; view 0 9 = 3; found 0 = 6; view 0 9 = 9
            """);
    }

    private static void kept() {
        Script.sentence("Returns the answer that a view keeps; INVALID_ARGUMENT if there is no such view; ILLEGAL_STATE if bankrupt", """
            kept 0 = INVALID; view "most a 0-0" = 0; kept 0 = -1; kept -1 = INVALID; kept 1 = INVALID; kept 8 = INVALID
            kept MIN = INVALID; kept MAX = INVALID; put 0 0 9; kept 0 = -1; grant 8; pay 0 1 = 0; kept 0 = -1; pay 0 2 = 2; kept 0 = 9
            """, BROKE + "kept 0 = ILLEGAL; grant 6; found 0 = 6; kept 0 = 1; drop 0; kept 0 = INVALID");
    }

    private static void ask() {
        Script.sentence("view: a view, perhaps a bankrupt one", """
            ask 0 0 0 = INVALID; view "sum a 0-0" = 0; ask -1 0 0 = INVALID; ask 1 0 0 = INVALID; ask 8 0 0 = INVALID
            ask MIN 0 0 = INVALID; ask MAX 0 0 = INVALID
            """, BROKE + "ask 0 0 0 = 0; ask 0 1 0 = 1; ask 0 1 1 = 1; drop 0; ask 0 0 0 = INVALID; ask 0 0 1 = INVALID");
        Script.sentence("at: 0 to the end of the log", """
            view "sum a 0-0" = 0; ask 0 0 0 = 0; ask 0 0 1 = 0; ask 0 1 0 = INVALID; put 0 0 9; ask 0 1 0 = 9; ask 0 1 1 = 9
            ask 0 2 0 = INVALID; ask 0 2 1 = INVALID; ask 0 -1 0 = INVALID; ask 0 -1 1 = INVALID; ask 0 MIN 1 = INVALID
            ask 0 MAX 1 = INVALID; undo; ask 0 1 0 = INVALID; ask 0 1 1 = INVALID
            """, "view \"sum a 0-0\" = 0; 200 times put 0 0 9; ask 0 200 0 = 9; ask 0 200 1 = 9; ask 0 201 0 = INVALID");
        Script.sentence("way: 0 by the tables at this place, 1 by the changes, one by one", """
            view "sum a 0-0" = 0; ask 0 0 -1 = INVALID; ask 0 0 2 = INVALID; ask 0 0 MIN = INVALID; ask 0 0 MAX = INVALID
            ask 0 0 0 = 0; ask 0 0 1 = 0
            """, """
            view "sum a 0-1" = 0; view "most b 0-0" = 1; put 0 0 7 = 0; put 0 1 8 = 1; put 1 0 9 = 2
            ask 0 3 1 = 15; ask 0 1 1 = 7; ask 0 0 1 = 0; ask 1 3 1 = 9; ask 1 2 1 = -1; ask 1 0 0 = -1; ask 1 3 0 = 9
            """);
    }

    private static void ruin() {
        String limits = "view \"sum a 0-0\" = 0; put 0 0 1; ";
        Script.sentence("Returns the number of ticks, from 1 on",
            limits + "set limit 0; ruin 0 = 1; tick = 1", limits + "set limit 1; ruin 0 = 2; tick = 0; ruin 0 = 1; tick = 1",
            limits + "set rate 20; set limit 19; ruin 0 = 1", limits + "set rate 20; set limit 20; ruin 0 = 2",
            limits + "set rate 20; set limit 39; ruin 0 = 2", limits + "set rate 20; set limit 40; ruin 0 = 3",
            limits + "set limit 500; ruin 0 = 501", limits + "ruin 0 = 31; 30 times tick = 0; ruin 0 = 1; tick = 1");
        Script.sentence("ILLEGAL_STATE if it is bankrupt; INVALID_ARGUMENT if there is no such view", """
            ruin 0 = INVALID; view "sum a 0-0" = 0; ruin -1 = INVALID; ruin 1 = INVALID; ruin 8 = INVALID; ruin MIN = INVALID
            ruin MAX = INVALID
            """, BROKE + "ruin 0 = ILLEGAL; drop 0; ruin 0 = INVALID");
        Script.sentence("NONE if it would not by 1000 ticks",
            "view \"sum a 0-0\" = 0; ruin 0 = NONE; set limit 0; ruin 0 = NONE; put 0 0 1; set rate 0; ruin 0 = NONE",
            limits + "tick = 0; set rate 0; ruin 0 = NONE; set limit 1; ruin 0 = NONE; set limit 0; ruin 0 = 1; tick = 1");
        Script.sentence("if only ticks passed (however full the treasury)",
            limits + "10 times grant 999; grant 9 = 9999; tick = FULL; ruin 0 = 31; set limit 0; ruin 0 = 1");
        Script.sentence("in how many ticks: by the same interest for each kind", """
            view "sum a 0-0" = 0; view "count a 0-0" = 1; view "most a 0-0" = 2; view "join 0-0" = 3; view "less 0 1" = 4
            put 0 0 1; set rate 10; ruin 0 = 4; ruin 1 = 4; ruin 2 = 4; ruin 3 = 4; ruin 4 = 4; tick = 0; ruin 3 = 3; ruin 4 = 3
            2 times tick = 0; ruin 4 = 1; tick = 0b11111
            """, """
            view "sum a 0-0" = 0; 200 times put 0 0 1; set rate 20; set limit 500; ruin 0 = 1; set rate 2; ruin 0 = 2; tick = 0
            ruin 0 = 1; tick = 1
            """);
    }

    private static void settled() {
        Script.sentence("rule: 0 to 2; coins: 1 to 9999", """
            settled -1 1 = INVALID; settled 3 1 = INVALID; settled MIN 1 = INVALID; settled MAX 1 = INVALID
            settled 0 0 = INVALID; settled 0 -1 = INVALID; settled 0 10000 = INVALID; settled 2 MIN = INVALID; settled 2 MAX = INVALID
            settled 0 1 = 0; settled 2 9999 = 0; settled 1 1 = 0; view "sum a 0-0" = 0; settled 0 1 = 1; settled 2 9999 = 1
            """);
        Script.sentence("with so many coins in the treasury", """
            view "sum a 0-0" = 0; set price 1; put 0 0 1; settled 0 1 = 1; put 0 0 1; settled 0 1 = 0; settled 0 2 = 1
            """, """
            view "less 0 1"; clearText; view "sum a 0-0" = 0; view "sum a 0-1" = 1; view "less 0 1" = 2; view "join 0-0" = 3
            set price 20; 84 times put 0 0 1; settled 0 9999 = 0b0111; settled 2 9999 = 0b0111; settled 0 6720 = 0b0111
            settled 0 6719 = 0b0011; settled 0 1679 = 0; settled 0 1680 = 0b0001; settled 1 3359 = 0b0001; settled 1 3360 = 0b0011
            """);
        Script.sentence("with so many coins in the treasury, which changes nothing: not the treasury that there is", """
            view "sum a 0-0" = 0; put 0 0 1; 10 times grant 999; settled 0 1 = 0; settled 0 2 = 1; settled 2 9999 = 1; count 6 = 9990
            grant 9 = 9999; settled 0 1 = 0; settled 1 2 = 1; settled 2 9999 = 1; count 6 = 9999; count 9 = 0; view 0 6 = 1
            set income 0; tick = 0; put 0 0 1; settled 0 2 = 0; settled 0 5 = 1; settled 0 4 = 0
            """);
        Script.sentence("if all was paid now by a rule: by the order that is set", """
            view "sum a 0-0" = 0; view "sum a 1-1" = 1; put 0 1 1; 4 times tick = 0; set order 1; pay 1 2 = 2
            put 0 0 1; tick = 0; set price 5; view 0 8 = 6; view 1 8 = 4; settled 0 5 = 0; settled 0 9 = 0b01; settled 0 10 = 0b11
            set order 0; settled 0 3 = 0; settled 0 4 = 0; settled 0 5 = 0b10; settled 0 6 = 0b01; settled 0 10 = 0b11
            """);
        Script.sentence("Returns the set of views that are not bankrupt of which this holds",
            "view \"sum a 0-0\" = 0; put 0 0 1; tick = 0; settled 0 2 = 0; settled 0 3 = 1; set order 1; settled 0 2 = 0; settled 0 3 = 1",
            BROKE + "settled 0 9999 = 0; view \"sum b 0-0\" = 1; settled 0 1 = 0b10; grant 6; found 0 = 6; settled 0 1 = 0b11");
    }

    private static void needed() {
        Script.sentence("Tells how many coins have to be in the treasury, so that all views have neither a debt nor arrears", """
            needed = 0; view "sum a 0-0" = 0; needed = 0; set price 1; put 0 0 1; needed = 1; grant 1; payAll = 1; count 5 = 0
            needed = 0
            """, """
            8 times view "join 0-0"; 25 times put 0 0 1; set rate 20; set limit 500; tick = 0; 175 times put 0 0 1; set price 20
            needed = 68000; count 12 = 4000; drop 7 = 7; needed = 59500
            """, """
            view "sum a 0-0" = 0; view "join 0-0" = 1; put 0 0 1; tick = 0; needed = 8; grant 2 = 7; settled 0 7 = 0b01
            payAll = 4; count 5 = 0b10; needed = 4; grant 1 = 4; payAll = 4; count 5 = 0; count 12 = 0; needed = 0
            """, "view \"join 0-0\" = 0; view \"join 0-1\" = 1; set price 20; 200 times put 0 0 1; needed = 16000; settled 0 9999 = 1",
            BROKE + "needed = 0; view \"sum a 0-0\" = 1; put 0 0 1; needed = 2");
    }

    private static void since() {
        Script.sentence("the earliest place of the log, from which on to its end the answer of a view is always the same", """
            view "sum a 0-0" = 0; since 0 = 0; put 0 0 0; since 0 = 0; put 0 0 1; since 0 = 2; put 0 1 1; since 0 = 2
            put 0 0 1; since 0 = 2; put 0 0 2; since 0 = 5; put 0 0 1; since 0 = 6; put 0 0 -1; since 0 = 7; put 0 0 0; since 0 = 7
            """, """
            view "most a 0-1" = 0; put 0 0 9; put 0 1 5; since 0 = 1; put 0 0 -1; since 0 = 3; put 0 0 2; since 0 = 3; put 0 1 -1
            since 0 = 5; put 0 0 -1; since 0 = 6; put 0 0 9; put 0 1 9; put 0 0 0; since 0 = 7
            """, "199 times put 0 0 7; put 0 0 8; view \"most a 0-0\" = 0; since 0 = 200; view \"count a 0-11\" = 1; since 1 = 1",
            "put 0 0 7; view \"sum a 0-0\" = 0; since 0 = 1; put 0 0 -1; since 0 = 2; put 0 0 -1; since 0 = 2");
        Script.sentence("the answer of a view is always the same: that of a view that is made of others", """
            view "sum a 0-0" = 0; view "sum a 0-1" = 1; view "less 0 1" = 2; put 0 0 5; since 2 = 0; since 0 = 1; put 0 1 3; since 2 = 2
            put 0 0 6; since 2 = 2; since 1 = 3; put 0 1 -1; since 2 = 4; put 0 0 -1; since 2 = 4; ask 2 4 0 = 0; ask 2 3 0 = -3
            """, """
            view "join 0-1" = 0; put 0 0 5; since 0 = 0; put 1 0 2; since 0 = 2; put 0 1 9; since 0 = 2; put 1 0 -1; since 0 = 4
            """);
        Script.sentence("view: a view, perhaps a bankrupt one; INVALID_ARGUMENT if there is no such view", """
            since 0 = INVALID; view "sum a 0-0" = 0; since -1 = INVALID; since 1 = INVALID; since 8 = INVALID; since MIN = INVALID
            since MAX = INVALID
            """, BROKE + "since 0 = 1; put 0 0 2; since 0 = 2; drop 0; since 0 = INVALID");
    }
}
