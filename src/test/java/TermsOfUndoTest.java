/** The boundaries of "What it is", "Snapshots", "Undo" and "Errors", sentence by sentence. */
public final class TermsOfUndoTest {
    public static void main(String[] args) {
        calls();
        lastCalls();
        slots();
        snapshots();
        history();
        states();
        records();
        refusals();
        orderOfErrors();
        noneIsNoError();
        Check.end("TermsOfUndoTest");
    }

    // ---- what it is

    private static void calls() {
        Script.sentence("An object is used for at most 512 calls after it has been made", """
            511 times tick = 0; count 13 = 511
            """, """
            511 times tick = 0; undo = 4
            """, """
            set income 0 = 5; 511 times tick = 0
            """, """
            200 times put 1 11 99; view "sum b 0-11" = 0; 300 times clearText = 0; put 0 0 0 = FULL
            """, """
            200 times put 1 11 99; view "sum b 0-11" = 0; 300 times clearText = 0; kept 0 = 99
            """);
    }

    /** Each method as the last call that is promised. */
    private static void lastCalls() {
        String[] last = {"put 0 3 4 = 1", "drop 0 = 0", "set rate 20 = 1", "grant 999 = 999", "tick = 0", "pay 0 1 = ILLEGAL",
            "payAll = ILLEGAL", "found 0 = ILLEGAL", "take 1 = 1", "restore 0 = 0", "undo = 2", "append 32 = 9",
            "clearText = 8", "count 5 = 1", "value 0 4 1 = 8", "change 0 3 = 1", "view 0 8 = 2", "kept 0 = 0", "ask 0 1 1 = 8",
            "ruin 0 = 31", "settled 0 2 = 1", "needed = 2", "since 0 = 1", "define = 1"};
        for (String call : last) {
            Debtors x = Script.behind("An object is used for at most 512 calls", """
                view "sum a 0-5" = 0; take 0 = 0; undo = 1; take 0 = 0; put 0 4 8 = 0; 489 times clearText = 0; tell "join 3-4"
                """ + call);
            Check.due("the calls left behind " + call, x.left(), 0);
        }
    }

    // ---- snapshots

    private static void slots() {
        Script.sentence("There are two slots for snapshots, empty at first.", """
            count 14 = 0; restore 0 = ILLEGAL; restore 1 = ILLEGAL
            take 0 = 0; count 14 = 1; restore 1 = ILLEGAL; restore 0 = 0; take 0 = 0; count 14 = 1
            take 1 = 0; count 14 = 2; restore 1 = 0; restore 0 = 0; take 1 = 0; count 14 = 2
            """, """
            take 1 = 0; count 14 = 1; restore 0 = ILLEGAL; restore 1 = 0; count 14 = 1
            """, """
            take -1 = INVALID; take 2 = INVALID; take MIN = INVALID; take MAX = INVALID; count 14 = 0
            restore -1 = INVALID; restore 2 = INVALID; restore MIN = INVALID; restore MAX = INVALID
            take 0 = 0; take 1 = 0; restore -1 = INVALID; restore 2 = INVALID; take 2 = INVALID; take -1 = INVALID
            """);
    }

    private static void snapshots() {
        Script.sentence("A snapshot keeps everything but the text, the slots and the history.", """
            tell "join"; take 0 = 0; tell " 1-1"; put 0 1 1 = 0; take 1 = 1
            restore 0 = 0; count 16 = 8; count 14 = 2; count 15 = 4; restore 1 = 1; count 14 = 2; count 15 = 5
            restore 0 = 0; define = 0; take 0 = 0; restore 1 = 1; count 2 = 0; restore 0 = 0; count 2 = 1
            """, """
            take 0 = 0; 200 times put 1 11 99; take 1 = 200; restore 0 = 0; put 0 0 5 = 0; restore 1 = 200
            change 0 0 = 1; change 0 2 = 99; change 199 1 = 11; value 1 11 200 = 99; put 0 0 5 = FULL
            """, """
            view "sum a 0-0" = 0; put 0 0 1 = 0; take 0 = 1; 4 times put 0 0 7; restore 0 = 1; count 0 = 1; view 0 6 = 1; since 0 = 1
            change 1 0 = INVALID; value 0 0 2 = INVALID; ask 0 2 0 = INVALID; ask 0 2 1 = INVALID; ask 0 1 0 = 1; put 0 0 9 = 1
            ask 0 2 0 = 9; ask 0 2 1 = 9; ask 0 3 0 = INVALID; view 0 6 = 2
            """, """
            take 0 = 0; view "sum a 0-0" = 0; put 0 0 7; 2 times tick = 0; pay 0 1 = 1; view 0 7 = 1; view 0 9 = 1; restore 0 = 0
            put 0 0 7 = 0; view "sum a 0-0" = 0; view 0 7 = 0; view 0 9 = 0; view 0 5 = 1; count 12 = 0; needed = 0; kept 0 = 7
            """, """
            set limit 0; take 0 = 0; view "sum a 0-0" = 0; put 0 0 7; tick = 1; restore 0 = 0; view "sum a 0-0" = 0; view 0 4 = 0
            kept 0 = 0; count 4 = 0; take 1 = 0; put 0 0 7; tick = 1; restore 1 = 0; kept 0 = 0; view 0 5 = 0; count 11 = 0
            """, """
            take 1 = 0; put 0 0 1 = 0; take 0 = 1; restore 1 = 0; put 1 5 9 = 0; restore 0 = 1; value 0 0 1 = 1; value 1 5 1 = NONE
            change 0 0 = 0; undo = 4; value 0 0 1 = NONE; value 1 5 1 = 9; change 0 0 = 1; restore 0 = 1; change 0 2 = 1
            """, """
            view "sum a 0-0" = 0; view "most b 1-1" = 1; view "less 0 1" = 2; take 0 = 0; put 0 0 7; put 1 1 8
            ask 0 2 1 = 7; ask 1 2 1 = 8; ask 2 2 1 = -1; since 1 = 2; restore 0 = 0; ask 0 0 1 = 0; ask 1 0 1 = -1
            ask 2 0 1 = 1; since 0 = 0; since 1 = 0; since 2 = 0; kept 1 = -1; kept 2 = 1; ask 0 0 0 = 0; ask 1 0 0 = -1; ask 2 0 0 = 1
            """, """
            take 0 = 0; 8 times view "join 1-1"; take 1 = 0; restore 0 = 0; count 3 = 0; count 2 = 0; view "sum a 0-0" = 0
            restore 1 = 0; count 3 = 0b11111111; view 0 0 = 3; view "sum a 0-0" = FULL
            """);
        Script.sentence("A snapshot keeps everything: what founding costs, too", """
            view "sum a 0-4" = 0; view "join 1-2" = 1; view "less 0 1" = 2; set limit 0; put 0 1 1; tick = 0b111; take 0 = 1
            grant 99; found 2 = 42; drop 2 = 2; restore 0 = 1; count 4 = 0b111; grant 99 = 104
            found 0 = 30; found 1 = 12; found 2 = 42; undo = 4; undo = 3; found 1 = 12; found 2 = 42; count 6 = 20
            """, """
            set limit 0; set price 1; take 0 = 0; view "sum a 0-5" = 0; view "join 0-9" = 1; view "less 0 1" = 2; take 1 = 0
            restore 0 = 0; view "most b 1-1" = 0; view "count a 2-3" = 1; view "less 1 0" = 2; put 0 2 1; put 1 1 1; tick = 0b111
            grant 99; found 0 = 3; found 1 = 6; found 2 = 9; restore 1 = 0; change 0 0 = INVALID; put 0 2 1; change 0 3 = 0b111
            tick = 0b111; grant 99; found 0 = 18; found 1 = 30; found 2 = 48; view 0 0 = 0; view 1 0 = 3; view 2 2 = 0
            """);
        String busy = """
            view "sum a 0-0" = 0; view "sum b 0-0" = 1; view "less 0 1" = 2; view "join 1-1" = 3; drop 3 = 3
            set limit 5 = 30; set rate 3 = 1; put 0 0 7 = 0; put 1 0 8 = 1; grant 60 = 60
            tick = 0b100; pay 0 2 = 2; pay 1 5 = 5; found 2 = 12; set limit 4 = 5; set rate 1 = 3; put 0 0 5 = 2; tick = 0; tick = 1
            count 6 = 56; count 7 = 75; count 8 = 5; count 9 = 2; count 10 = 12; count 11 = 11; count 12 = 2; count 13 = 3
            set order 1 = 0; set rule 2 = 0; set price 3 = 2; set rate 4 = 1; set income 9 = 5
            """;
        String otherwise = """
            grant 500; put 0 0 9; put 1 1 2; set limit 500; tick; payAll = 22; count 8 = 15; count 9 = 14; set limit 0; put 0 0 3; tick; found 0; drop 2; drop 0
            set limit 7; set order 0; set rule 1; set price 1; set rate 0; set income 3; view "count b 2-3" = 4
            """;
        for (int slot = 0; slot < 2; slot++) {
            Debtors before = Script.behind("A snapshot", busy);
            String back = "; take " + slot + " = 3; " + otherwise + "; restore " + slot + " = 3";
            Debtors after = Script.behind("To restore it makes all this as it was.", busy + back);
            Check.same("To restore it makes all this as it was.", after.sightOfState(), before.sightOfState());
            after = Script.behind("Restores a snapshot, which stays.", busy + back + ";" + otherwise + "; restore " + slot);
            Check.same("Restores a snapshot, which stays.", after.sightOfState(), before.sightOfState());
        }
    }

    // ---- undo

    private static void history() {
        Script.sentence("A history of at most 5 states is kept", """
            count 15 = 0; undo = ILLEGAL
            4 times grant 1; count 15 = 4; grant 1 = 5; count 15 = 5; grant 1 = 6; count 15 = 5
            """);
        Script.sentence("when a sixth one is recorded, the oldest one is dropped", """
            5 times grant 1; undo = 4; undo = 3; undo = 2; undo = 1; undo = 0; count 6 = 0; undo = ILLEGAL; count 6 = 0
            """, """
            6 times grant 1; undo = 4; undo = 3; undo = 2; undo = 1; undo = 0; count 6 = 1; undo = ILLEGAL; count 6 = 1
            """, """
            17 times grant 1; undo = 4; count 6 = 16; undo = 3; grant 5 = 20; count 15 = 4; grant 5 = 25; count 15 = 5
            grant 5 = 30; count 15 = 5; undo = 4; undo = 3; undo = 2; undo = 1; count 6 = 14; undo = 0; count 6 = 13; undo = ILLEGAL
            """);
        Script.sentence("undo() removes the latest state from the history and restores it.", """
            put 0 0 7 = 0; put 0 0 8 = 1; undo = 1; value 0 0 1 = 7; value 0 0 2 = INVALID; undo = 0; count 0 = 0; undo = ILLEGAL
            put 1 1 9 = 0; count 15 = 1; undo = 0; count 0 = 0
            """);
    }

    private static void states() {
        Script.sentence("a state is everything but the text and the history (the slots belong to it)", """
            tell "jo"; grant 1 = 1; tell "in"; undo = 0; count 16 = 4; view " 0-0" = 0
            """, """
            view "join 0-0" = 0; count 16 = 0; undo = 0; count 16 = 0; count 2 = 0; view "join 0-0" = 0
            """, """
            view "sum a 0-0" = 0; put 0 0 1; tick = 0; pay 0 9 = 3; count 8 = 1; count 9 = 2; view 0 9 = 3; view 0 5 = 1; undo = 3
            count 6 = 5; count 8 = 0; count 9 = 0; view 0 9 = 0; view 0 5 = 0; view 0 7 = 1; kept 0 = 0
            """, """
            take 0 = 0; put 0 0 1 = 0; take 1 = 1; undo = 2; count 14 = 1; restore 1 = ILLEGAL; undo = 1; undo = 0; count 14 = 0
            restore 0 = ILLEGAL
            """, """
            take 0 = 0; put 0 0 1 = 0; take 0 = 1; put 0 0 2 = 1; restore 0 = 1; undo = 4; undo = 3; undo = 2; restore 0 = 0
            """, """
            take 1 = 0; 5 times grant 1; undo = 4; undo = 3; undo = 2; undo = 1; undo = 0; count 14 = 1; restore 1 = 0
            """, """
            take 0 = 0; put 0 0 1 = 0; take 1 = 1; 3 times grant 1; take 0 = 1; undo = 4; undo = 3; undo = 2; undo = 1
            count 14 = 2; undo = 0; count 14 = 1; restore 1 = ILLEGAL; restore 0 = 0; restore 0 = 0
            """, """
            take 1 = 0; put 0 0 1 = 0; take 0 = 1; restore 1 = 0; put 1 5 9 = 0; take 0 = 1; undo = 4
            restore 0 = 1; value 0 0 1 = 1; value 1 5 1 = NONE
            """, """
            view "sum a 0-0" = 0; put 0 0 7; tick = 0; view 0 7 = 1; pay 0 5 = 3; view 0 9 = 3; undo = 3; undo = 2; undo = 1; undo = 0
            view "sum a 0-0" = 0; view 0 5 = 0; view 0 6 = 0; view 0 7 = 0; view 0 9 = 0; kept 0 = 0; count 13 = 0
            """, """
            set limit 0; view "sum a 0-3" = 0; put 0 0 7; tick = 1; undo = 3; undo = 2; undo = 1; view "sum b 2-2" = 0; view 0 4 = 0
            put 1 2 7; tick = 1; grant 1; found 0 = 6; kept 0 = 7
            """, """
            put 0 0 1 = 0; take 0 = 1; put 0 0 2 = 1; restore 0 = 1; undo = 3; count 0 = 2; value 0 0 2 = 2; restore 0 = 1; count 15 = 4
            """);
    }

    private static void records() {
        Script.sentence("Every successful call of an action records the state before it (also if nothing changes by it)",
            "put 0 0 -1 = 0; count 15 = 1; undo = 0; count 0 = 0",
            "view \"sum a 0-0\" = 0; count 15 = 1; undo = 0; count 1 = 0",
            "view \"sum a 0-0\" = 0; drop 0 = 0; count 15 = 2; undo = 1; count 1 = 1",
            "set rate 1 = 1; count 15 = 1; set rule 0 = 0; count 15 = 2",
            "grant 1 = 1; count 15 = 1; undo = 0; count 6 = 0",
            "set income 0 = 5; tick = 0; count 15 = 2; undo = 1; count 13 = 0",
            "view \"sum a 0-0\" = 0; grant 1 = 1; pay 0 1 = 0; count 15 = 3; undo = 2",
            "grant 1 = 1; payAll = 0; count 15 = 2; undo = 1",
            "view \"sum a 0-0\"; set limit 0; put 0 0 1; grant 1 = 1; tick = 1; found 0 = 6; count 15 = 5; undo = 4; count 4 = 1",
            "take 0 = 0; count 15 = 1; take 0 = 0; count 15 = 2; restore 0 = 0; count 15 = 3; restore 0 = 0; count 15 = 4");
        Script.sentence("a method that is called an action: the other ones record nothing", """
            view "sum a 0-0" = 0; put 0 0 1 = 0; append 32 = 1; append 1 = 2; append 255 = 3; count 15 = 2; clearText = 3; count 15 = 2
            count 0 = 1; value 0 0 1 = 1; change 0 0 = 0; view 0 0 = 0; kept 0 = 0; ask 0 1 0 = 1; ruin 0 = 31; settled 0 2 = 1
            needed = 2; since 0 = 1; count 15 = 2; undo = 1; count 15 = 1; undo = 0; count 15 = 0
            """);
        Script.sentence("what could be, which changes nothing: and nothing is changed by looking", """
            view "sum a 0-0" = 0; take 1 = 0; put 0 0 1 = 0; put 0 1 2 = 1; tick = 0; grant 1 = 6; tell "join 3-4"
            count 5 = 1; value 0 0 1 = 1; change 0 3 = 1; view 0 8 = 3; kept 0 = 0; ask 0 1 0 = 1; ask 0 1 1 = 1
            ruin 0 = 30; settled 0 3 = 1; settled 2 9999 = 1; needed = 3; since 0 = 1
            """);
        Script.sentence("Every successful call: a refused one records nothing", """
            8 times view "sum a 0-0"; set limit 0; 199 times put 0 0 1; tick = 0b11111111; take 0 = 199
            put 0 12 1 = INVALID; count 15 = 5; define = fault 0; view "sum a 0-0" = FULL; drop 8 = INVALID; set 6 0 = INVALID
            grant 0 = INVALID; pay 0 1 = ILLEGAL; found 0 = ILLEGAL; take 2 = INVALID; restore 1 = ILLEGAL; restore 2 = INVALID
            count 15 = 5; undo = 4; count 14 = 0; count 4 = 0b11111111; undo = 3; count 4 = 0; undo = 2; count 0 = 198
            """);
    }

    // ---- errors

    /** That nothing changes is seen behind each refused call of a Debtors; here are all of them, in a busy state. */
    private static void refusals() {
        String busy = """
            8 times view "sum a 0-0"; drop 5 = 7; set limit 4; put 0 0 7; tick = 0; take 0 = 1; put 0 0 6; tick; take 1 = 2
            tick = 0b11011111; undo = 4; tell "sum a 0-"; 9 times grant 999; grant 999 = FULL; grant 994 = 9995
            """;
        Script.sentence("A call that returns an error code changes nothing.", busy + """
            put 2 0 0 = INVALID; put 0 12 0 = INVALID; put 0 0 100 = INVALID; define = fault 8; drop 5 = INVALID; drop 8 = INVALID
            set 6 0 = INVALID; set rate 21 = INVALID; grant 0 = INVALID; grant 1000 = INVALID; grant 5 = FULL
            pay 5 1 = INVALID; pay 0 0 = INVALID; pay 0 1000 = INVALID; found 5 = INVALID; found 0 = ILLEGAL
            take 2 = INVALID; restore 2 = INVALID; append 0 = INVALID; append 256 = INVALID; tick = FULL
            """, busy + """
            count 23 = INVALID; value 0 0 3 = INVALID; change 2 0 = INVALID; change 0 4 = INVALID; view 5 0 = INVALID
            view 0 10 = INVALID; kept 5 = INVALID; ask 5 0 0 = INVALID; ask 0 3 0 = INVALID; ask 0 0 2 = INVALID
            ruin 5 = INVALID; settled 3 1 = INVALID; settled 0 0 = INVALID; settled 0 10000 = INVALID; since 5 = INVALID
            """, busy + """
            view "12" = INVALID; clearText = 10; view "less 0 5" = INVALID; clearText = 8; view "sum a 1-0" = INVALID
            clearText = 9; view "sum a 0-0" = FULL; count 16 = 9; 31 times append 32; append 32 = FULL; define = FULL
            """, """
            view "sum a 0-0" = 0; view "less 0 0" = INVALID; clearText = 8; view "sum a 0-1" = 1; view "less 0 1" = 2
            drop 0 = ILLEGAL; drop 1 = ILLEGAL; pay 0 1 = ILLEGAL; payAll = ILLEGAL; restore 0 = ILLEGAL; restore 1 = ILLEGAL
            put 0 0 1; set limit 0; tick = 0b111; pay 0 1 = ILLEGAL; found 0 = ILLEGAL; kept 0 = ILLEGAL; ruin 0 = ILLEGAL
            drop 0 = ILLEGAL; grant 1 = 6; found 1 = ILLEGAL; found 0 = 6; payAll = ILLEGAL; pay 0 1 = ILLEGAL
            """);
    }

    private static void orderOfErrors() {
        Script.sentence("If several error conditions apply, the method returns the one that its description lists first", """
            200 times put 0 0 1; put 0 0 1 = FULL; put 2 0 1 = INVALID; put 0 12 1 = INVALID; put 0 0 100 = INVALID
            """, """
            8 times view "sum a 0-0"; view "sum a 1-0" = INVALID; clearText; view "sum a 0-12" = INVALID; clearText
            view "less 0 0" = INVALID; clearText; view "less 0 8" = INVALID; clearText; view "sum a 1-0 0" = fault 10; clearText
            view "less 8 8 8" = fault 9; clearText; define = fault 0; view "sum a 0-0" = FULL
            """, """
            view "less 00 0" = fault 5; clearText; view "sum a 12-100" = fault 9; clearText; view "sum a 12-" = fault 9
            """, """
            10 times grant 999; grant 9 = 9999; grant 1 = FULL; grant 1000 = INVALID; grant 0 = INVALID; grant MAX = INVALID
            """, """
            view "sum a 0-0" = 0; pay 0 1 = ILLEGAL; pay 0 0 = INVALID; pay 0 1000 = INVALID; pay 1 1 = INVALID; pay 1 0 = INVALID
            set limit 0; put 0 0 1; tick = 1; pay 0 1 = ILLEGAL; pay 0 0 = INVALID; pay 0 1000 = INVALID
            """, """
            found 0 = INVALID; view "sum a 0-0" = 0; found 0 = ILLEGAL; found 1 = INVALID
            """, """
            restore 0 = ILLEGAL; restore 2 = INVALID; 40 times append 32; append 32 = FULL; append 0 = INVALID; append 256 = INVALID
            """);
    }

    private static void noneIsNoError() {
        Script.sentence("NONE is no error, and it is returned only if no error condition applies.", """
            value 0 0 0 = NONE; value 0 0 1 = INVALID; value 0 12 0 = INVALID; value 2 0 0 = INVALID; value 0 0 -1 = INVALID
            """, """
            view "join 0-0" = 0; view 0 1 = NONE; view 1 1 = INVALID; view -1 1 = INVALID; ruin 0 = NONE; ruin 1 = INVALID
            put 0 0 1; set limit 0; tick = 1; view 0 5 = NONE; ruin 0 = ILLEGAL; set rate 0; ruin 0 = ILLEGAL; view 1 5 = INVALID
            drop 0 = 0; view 0 5 = INVALID; view 0 1 = INVALID; ruin 0 = INVALID
            """);
    }
}
