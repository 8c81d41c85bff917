/** The boundaries that several promises share: what stands ahead of them, sentence by sentence. */
public final class TermsTest {
    public static void main(String[] args) {
        tables();
        log();
        views();
        questions();
        concerns();
        places();
        settings();
        ticks();
        bankruptcies();
        payments();
        arrears();
        paymentsOfAll();
        rules();
        founding();
        Check.end("TermsTest");
    }

    // ---- tables and the log

    private static void tables() {
        Script.sentence("There are two tables, 0 and 1.", """
            put 0 5 1 = 0; put 1 5 2 = 1
            value 0 5 2 = 1; value 1 5 2 = 2
            change 0 0 = 0; change 1 0 = 1
            """, """
            put -1 5 1 = INVALID; put 2 5 1 = INVALID; put MIN 5 1 = INVALID; put MAX 5 1 = INVALID
            count 0 = 0
            """, """
            put 0 5 1 = 0; put 1 5 1 = 1
            value -1 5 1 = INVALID; value 2 5 1 = INVALID; value MIN 5 1 = INVALID; value MAX 5 1 = INVALID
            """);
        Script.sentence("Each has 12 keys, 0 to 11", """
            put 0 0 1 = 0; put 0 11 2 = 1; put 1 0 3 = 2; put 1 11 4 = 3
            value 0 0 4 = 1; value 0 11 4 = 2; value 1 0 4 = 3; value 1 11 4 = 4
            change 0 1 = 0; change 1 1 = 11; change 2 1 = 0; change 3 1 = 11
            change 0 0 = 0; change 1 0 = 0; change 2 0 = 1; change 3 0 = 1
            """, """
            put 0 -1 1 = INVALID; put 0 12 1 = INVALID; put 1 -1 1 = INVALID; put 1 12 1 = INVALID
            put 0 MIN 1 = INVALID; put 1 MAX 1 = INVALID
            count 0 = 0
            """, """
            value 0 -1 0 = INVALID; value 0 12 0 = INVALID; value 1 -1 0 = INVALID; value 1 12 0 = INVALID
            value 0 MIN 0 = INVALID; value 1 MAX 0 = INVALID
            """);
        Script.sentence("at a key there is a value of 0 to 99, or none", """
            put 0 7 0 = 0; put 0 7 99 = 1; put 0 7 -1 = 2
            value 0 7 1 = 0; value 0 7 2 = 99; value 0 7 3 = NONE
            change 0 2 = 0; change 1 2 = 99; change 2 2 = -1
            """, """
            put 1 7 -2 = INVALID; put 1 7 100 = INVALID; put 1 7 MIN = INVALID; put 1 7 MAX = INVALID
            count 0 = 0
            """);
        Script.sentence("(at first none anywhere)", """
            value 0 0 0 = NONE; value 0 11 0 = NONE; value 1 0 0 = NONE; value 1 11 0 = NONE
            put 0 0 5 = 0; value 0 0 0 = NONE; value 0 1 1 = NONE; value 1 0 1 = NONE
            """);
    }

    private static void log() {
        Script.sentence("The log has at most 200 changes", """
            199 times put 0 0 1; put 1 11 99 = 199
            put 0 0 1 = FULL; put 1 11 -1 = FULL
            count 0 = 200; change 199 2 = 99; change 200 2 = INVALID
            undo = 4; put 0 3 4 = 199; put 0 3 4 = FULL
            """);
        Script.sentence("numbered from 0 in the order in which they were made", """
            change 0 2 = INVALID
            put 0 1 10 = 0; put 1 2 20 = 1; put 0 1 -1 = 2
            change 0 2 = 10; change 1 2 = 20; change 2 2 = -1
            change -1 2 = INVALID; change 3 2 = INVALID; change MIN 2 = INVALID; change MAX 2 = INVALID
            """);
        Script.sentence("a change sets what is at a key of a table to a value, or to none", """
            put 0 4 -1 = 0; put 0 4 6 = 1; put 0 4 6 = 2; put 0 4 0 = 3; put 0 4 -1 = 4
            value 0 4 1 = NONE; value 0 4 2 = 6; value 0 4 3 = 6; value 0 4 4 = 0; value 0 4 5 = NONE
            """);
        Script.sentence("The tables at a place n of the log are as they were behind the changes 0 to n - 1", """
            put 0 2 7 = 0; put 0 2 8 = 1; put 1 2 9 = 2
            value 0 2 0 = NONE; value 0 2 1 = 7; value 0 2 2 = 8; value 0 2 3 = 8
            value 1 2 2 = NONE; value 1 2 3 = 9
            value 0 2 -1 = INVALID; value 0 2 4 = INVALID; value 0 2 MIN = INVALID; value 0 2 MAX = INVALID
            """, """
            199 times put 0 0 1; put 0 0 9 = 199; value 0 0 199 = 1; value 0 0 200 = 9; view "sum a 0-0" = 0; kept 0 = 9
            ask 0 199 0 = 1; ask 0 199 1 = 1; ask 0 200 0 = 9; ask 0 200 1 = 9; since 0 = 200
            """);
        Script.sentence("the end of the log is the number of changes", """
            count 0 = 0; value 0 0 0 = NONE; value 0 0 1 = INVALID
            put 0 0 5 = 0
            count 0 = 1; value 0 0 1 = 5; value 0 0 2 = INVALID
            """, """
            200 times put 0 0 5
            count 0 = 200; value 0 0 200 = 5; value 0 0 201 = INVALID; take 0 = 200
            """);
    }

    // ---- views

    private static void views() {
        Script.sentence("There are at most 8 views", """
            7 times view "sum a 0-0"; view "sum b 3-4" = 7
            count 1 = 8; count 2 = 8; count 3 = 0b11111111
            view "sum a 0-0" = FULL
            count 1 = 8; count 2 = 8; count 3 = 0b11111111; count 16 = 9; view 8 0 = INVALID; view 7 2 = 3
            """, """
            8 times view "sum a 0-0"; view "less 6 7" = FULL; clearText = 8; view "less 7 8" = INVALID; clearText = 8
            drop 7 = 7; view "less 6 7" = INVALID; clearText = 8; view "less 0 6" = FULL
            """);
        Script.sentence("numbered from 0 in the order in which they were defined", """
            count 1 = 0; count 3 = 0; view 0 0 = INVALID
            view "sum a 0-0" = 0; view "count a 0-0" = 1; view "most a 0-0" = 2
            view 0 0 = 0; view 1 0 = 1; view 2 0 = 2
            view -1 0 = INVALID; view 3 0 = INVALID; view MIN 0 = INVALID; view MAX 0 = INVALID
            """);
        Script.sentence("a view that has been dropped does not exist any more", """
            view "sum a 0-0" = 0; view "sum b 0-0" = 1; put 0 0 1 = 0; tick = 0
            drop 0 = 1
            count 1 = 1; count 2 = 2; count 3 = 0b10; count 4 = 0; count 5 = 0; count 12 = 0
            view 0 0 = INVALID; kept 0 = INVALID; ask 0 0 0 = INVALID; ask 0 0 1 = INVALID
            ruin 0 = INVALID; since 0 = INVALID; change 0 3 = 0; needed = 0; settled 0 9 = 0b10
            drop 0 = INVALID; pay 0 1 = INVALID; found 0 = INVALID
            view "less 0 1" = INVALID
            set limit 0 = 30; tick = 0; payAll = 0; count 8 = 0; count 9 = 0; count 11 = 0
            """, """
            view "sum a 0-0" = 0; set limit 0 = 30; put 0 0 1 = 0; tick = 1
            drop 0 = 0
            count 3 = 0; count 4 = 0; found 0 = INVALID; ask 0 0 0 = INVALID; since 0 = INVALID
            """);
        Script.sentence("and its number is not used again", """
            view "sum a 0-0" = 0; drop 0 = 0; view "sum b 0-0" = 1; count 3 = 0b10
            """, """
            8 times view "sum a 0-0"
            drop 7 = 7; view "sum a 0-0" = FULL; drop 0 = 6; define = FULL
            count 1 = 6; count 2 = 8; count 3 = 0b01111110
            undo = 4; drop 0 = 6
            """, """
            8 times view "join 1-1"
            drop 0 = 7; drop 1 = 6; drop 2 = 5; drop 3 = 4; drop 4 = 3; drop 5 = 2; drop 6 = 1; drop 7 = 0
            count 1 = 0; count 2 = 8; view "join 1-1" = FULL; count 16 = 8
            """);
    }

    private static void questions() {
        Script.sentence("0 sum the sum of the values of a table at keys of a range (from a first one to a last one)", """
            view "sum a 3-5" = 0; kept 0 = 0
            put 0 2 1; put 0 3 10; put 0 4 20; put 0 5 40; put 0 6 2; put 1 3 4; put 1 5 8
            ask 0 0 0 = 0; ask 0 0 1 = 0; ask 0 7 0 = 70; ask 0 7 1 = 70
            put 0 4 -1; ask 0 8 0 = 50; ask 0 8 1 = 50
            """, """
            view "sum b 0-0" = 0; view "sum b 11-11" = 1; put 1 0 5; put 1 11 6; put 1 1 7; put 1 10 8; put 0 0 9; put 0 11 9
            ask 0 6 0 = 5; ask 0 6 1 = 5; ask 1 6 0 = 6; ask 1 6 1 = 6
            """, full(1) + """
            view "sum b 0-11" = 0; kept 0 = 1188; ask 0 12 0 = 1188; ask 0 12 1 = 1188; ask 0 11 0 = 1089
            """);
        Script.sentence("1 count the number of keys of the range at which the table has a value", """
            view "count a 3-5" = 0; kept 0 = 0
            put 0 3 0; put 0 5 99; put 0 2 1; put 0 6 1; put 1 4 1
            ask 0 5 0 = 2; ask 0 5 1 = 2
            put 0 4 -1; ask 0 6 0 = 2; ask 0 6 1 = 2
            put 0 3 -1; ask 0 7 0 = 1; ask 0 7 1 = 1
            put 0 5 5; ask 0 8 0 = 1; ask 0 8 1 = 1
            """, full(0) + """
            view "count a 0-11" = 0; kept 0 = 12; ask 0 12 1 = 12; ask 0 0 0 = 0; view "count a 11-11" = 1; kept 1 = 1
            """);
        Script.sentence("2 most the greatest value of the table at keys of the range, or -1 if there is none", """
            view "most a 3-5" = 0; kept 0 = -1; ask 0 0 0 = -1; ask 0 0 1 = -1
            put 0 2 99; put 0 6 99; put 1 4 99; ask 0 3 0 = -1; ask 0 3 1 = -1
            put 0 3 0; ask 0 4 0 = 0; ask 0 4 1 = 0
            put 0 5 99; ask 0 5 0 = 99; ask 0 5 1 = 99
            put 0 5 98; ask 0 6 0 = 98; ask 0 6 1 = 98
            put 0 5 -1; ask 0 7 0 = 0; ask 0 7 1 = 0
            put 0 3 -1; ask 0 8 0 = -1; ask 0 8 1 = -1
            """, """
            view "most b 0-3" = 0; put 1 0 0; put 1 3 0; put 1 0 -1; ask 0 3 0 = 0; ask 0 3 1 = 0; put 1 3 -1; ask 0 4 0 = -1; ask 0 4 1 = -1
            put 1 1 99; put 1 2 99; put 1 3 50; put 1 1 3; ask 0 8 0 = 99; ask 0 8 1 = 99; put 1 2 4; ask 0 9 0 = 50; ask 0 9 1 = 50
            """, full(1) + """
            view "most a 0-11" = 0; view "most b 0-11" = 1; kept 0 = -1; kept 1 = 99; put 0 5 7; ask 0 13 0 = 7; ask 0 13 1 = 7
            put 0 5 8; ask 0 14 0 = 8; ask 0 14 1 = 8; put 1 5 3; ask 0 15 0 = 8; ask 0 15 1 = 8; ask 1 15 1 = 99
            """);
        Script.sentence("3 join the sum, over all keys of the range at which both tables have a value, of the products", """
            view "join 3-5" = 0; kept 0 = 0
            put 0 3 2; ask 0 1 0 = 0; ask 0 1 1 = 0
            put 1 3 3; ask 0 2 0 = 6; ask 0 2 1 = 6
            put 0 2 9; put 1 2 9; put 0 6 9; put 1 6 9; ask 0 6 0 = 6; ask 0 6 1 = 6
            put 1 5 99; put 0 5 99; ask 0 8 0 = 9807; ask 0 8 1 = 9807
            put 0 3 0; ask 0 9 0 = 9801; ask 0 9 1 = 9801
            put 1 5 -1; ask 0 10 0 = 0; ask 0 10 1 = 0
            """, """
            view "join 0-11" = 0; put 1 3 7; ask 0 1 0 = 0; ask 0 1 1 = 0; put 0 11 8; ask 0 2 0 = 0; ask 0 2 1 = 0
            put 0 3 1; put 1 11 1; ask 0 4 0 = 15; ask 0 4 1 = 15; put 0 3 -1; ask 0 5 0 = 8; ask 0 5 1 = 8; put 1 11 0
            ask 0 6 0 = 0; ask 0 6 1 = 0; put 0 3 0; ask 0 7 0 = 0; ask 0 7 1 = 0
            """, full(0) + full(1) + """
            view "join 0-11" = 0; kept 0 = 117612; ask 0 24 1 = 117612; ask 0 12 0 = 0; ask 0 12 1 = 0; ask 0 23 1 = 107811
            view "join 11-11" = 1; kept 1 = 9801
            """);
        Script.sentence("4 less the answer of one earlier view less that of another earlier view, at the same place", """
            view "sum a 0-0" = 0; view "sum b 0-0" = 1; put 0 0 5 = 0; put 1 0 7 = 1; view "less 0 1" = 2; view "less 1 0" = 3
            kept 0 = 0; kept 1 = 0; kept 2 = -2; kept 3 = 2
            ask 2 0 0 = 0; ask 2 1 0 = 5; ask 2 1 1 = 5; ask 2 2 0 = -2; ask 2 2 1 = -2; ask 3 2 1 = 2
            set limit 0 = 30; tick = 0b0011; kept 2 = -2; put 0 0 9 = 2; ask 2 3 0 = 2; ask 2 3 1 = 2
            """, full(0) + """
            view "sum a 0-11" = 0; view "most b 0-0" = 1; view "less 1 0" = 2; view "less 1 2" = 3; view "less 3 2" = 4
            view "less 4 3" = 5; view "less 5 4" = 6; view "less 6 5" = 7
            kept 2 = -1189; kept 3 = 1188; kept 4 = 2377; kept 5 = 1189; kept 6 = -1188; kept 7 = -2377
            ask 7 12 1 = -2377; ask 7 0 0 = -1; ask 7 0 1 = -1
            """);
        Script.sentence("of one earlier view less that of another earlier view (whatever these keep)", """
            view "sum a 0-0" = 0; view "sum b 0-0" = 1; set limit 0; put 0 0 5; tick = 0b01
            view "less 0 1" = 2; view "less 1 0" = 3; kept 2 = 5; kept 3 = -5; kept 0 = ILLEGAL; kept 1 = 0
            put 1 0 7; tick = 0b1110; view "less 0 1" = 4; kept 4 = -2; drop 4 = 4
            """);
    }

    /** Changes of a table by which each key has the greatest value. */
    private static String full(int table) {
        StringBuilder changes = new StringBuilder();
        for (int key = 0; key < 12; key++) {
            changes.append("put ").append(table).append(' ').append(key).append(" 99; ");
        }
        return changes.toString();
    }

    private static void concerns() {
        String around = """
            put 0 2 1; put 0 3 1; put 0 5 1; put 0 6 1; put 1 2 1; put 1 3 1; put 1 5 1; put 1 6 1
            """;
        String ofTableA = around + "change 0 3 = 0; change 1 3 = 1; change 2 3 = 1; change 3 3 = 0; "
            + "change 4 3 = 0; change 5 3 = 0; change 6 3 = 0; change 7 3 = 0; view 0 6 = 2";
        String ofTableB = around + "change 0 3 = 0; change 1 3 = 0; change 2 3 = 0; change 3 3 = 0; "
            + "change 4 3 = 0; change 5 3 = 1; change 6 3 = 1; change 7 3 = 0; view 0 6 = 2";
        Script.sentence("A change concerns a view of the kind 0, 1 or 2 if it is of its table and its key is in the range",
            "view \"sum a 3-5\" = 0; " + ofTableA, "view \"count a 3-5\" = 0; " + ofTableA,
            "view \"most a 3-5\" = 0; " + ofTableA, "view \"sum b 3-5\" = 0; " + ofTableB,
            "view \"count b 3-5\" = 0; " + ofTableB, "view \"most b 3-5\" = 0; " + ofTableB, """
            view "sum a 0-0" = 0; view "sum a 11-11" = 1; view "sum b 0-0" = 2; view "sum b 11-11" = 3
            put 0 0 1; put 0 11 1; put 1 0 1; put 1 11 1; put 0 1 1; put 1 10 1
            change 0 3 = 0b0001; change 1 3 = 0b0010; change 2 3 = 0b0100; change 3 3 = 0b1000; change 4 3 = 0; change 5 3 = 0
            """);
        Script.sentence("one of the kind 3 if its key is in the range",
            "view \"join 3-5\" = 0; " + around + """
            change 0 3 = 0; change 1 3 = 1; change 2 3 = 1; change 3 3 = 0
            change 4 3 = 0; change 5 3 = 1; change 6 3 = 1; change 7 3 = 0; view 0 6 = 4
            """, """
            view "join 0-11" = 0; put 0 0 1; put 0 11 1; put 1 0 1; put 1 11 1; view 0 6 = 4
            """);
        Script.sentence("one of the kind 4 if it concerns one of the two views of which it is made", """
            view "sum a 0-1" = 0; view "sum a 1-2" = 1; view "sum b 3-3" = 2; view "less 0 1" = 3; view "less 2 3" = 4
            put 0 0 1; put 0 1 1; put 0 2 1; put 0 3 1; put 1 3 1; put 1 0 1
            change 0 3 = 0b11001; change 1 3 = 0b11011; change 2 3 = 0b11010
            change 3 3 = 0; change 4 3 = 0b10100; change 5 3 = 0
            view 3 6 = 3; view 4 6 = 4
            """);
    }

    private static void places() {
        Script.sentence("keeps the answer at this place (it stands at the end of the log when it is defined)", """
            view "sum a 0-0" = 0; view 0 5 = 0; kept 0 = 0
            put 0 0 5 = 0; view 0 5 = 0; kept 0 = 0
            view "sum a 0-0" = 1; view 1 5 = 1; kept 1 = 5
            """, """
            200 times put 0 0 9; view "sum a 0-0" = 0; view 0 5 = 200; kept 0 = 9; view 0 6 = 0
            """);
        Script.sentence("The changes from there on that concern it are its arrears.", """
            put 0 0 1 = 0; view "sum a 0-0" = 0; view 0 6 = 0; count 5 = 0
            put 0 0 2 = 1; view 0 6 = 1; count 5 = 1
            put 0 1 2 = 2; view 0 6 = 1; put 0 0 2 = 3; view 0 6 = 2
            """, """
            view "sum a 0-0" = 0; 199 times put 0 0 1; view 0 6 = 199; put 0 0 -1 = 199; view 0 6 = 200; view 0 8 = 400
            """, """
            view "sum a 0-0" = 0; 199 times put 0 0 1; put 0 0 9 = 199; set price 1; grant 201
            pay 0 199 = 199; view 0 5 = 199; view 0 6 = 1; kept 0 = 1; pay 0 2 = 1; view 0 5 = 200; view 0 6 = 0; kept 0 = 9
            """);
    }

    // ---- settings, interest, payments

    private static void settings() {
        Script.sentence("0 the rate (0 to 20; 1)", """
            count 17 = 1; set rate 0 = 1; count 17 = 0; set rate 20 = 0; count 17 = 20
            set rate -1 = INVALID; set rate 21 = INVALID; set rate MIN = INVALID; set rate MAX = INVALID; count 17 = 20
            """);
        Script.sentence("1 the price (1 to 20; 2)", """
            count 18 = 2; set price 1 = 2; count 18 = 1; set price 20 = 1; count 18 = 20
            set price 0 = INVALID; set price 21 = INVALID; set price MIN = INVALID; set price MAX = INVALID; count 18 = 20
            """);
        Script.sentence("2 the limit (0 to 500; 30)", """
            count 19 = 30; set limit 0 = 30; count 19 = 0; set limit 500 = 0; count 19 = 500
            set limit -1 = INVALID; set limit 501 = INVALID; set limit MIN = INVALID; set limit MAX = INVALID; count 19 = 500
            """);
        Script.sentence("3 the income (0 to 100; 5)", """
            count 20 = 5; set income 0 = 5; count 20 = 0; set income 100 = 0; count 20 = 100
            set income -1 = INVALID; set income 101 = INVALID; set income MIN = INVALID; set income MAX = INVALID
            count 20 = 100
            """);
        Script.sentence("4 the order (0 or 1; 0)", """
            count 21 = 0; set order 1 = 0; count 21 = 1; set order 0 = 1; count 21 = 0
            set order -1 = INVALID; set order 2 = INVALID; set order MIN = INVALID; set order MAX = INVALID; count 21 = 0
            """);
        Script.sentence("5 the rule (0 to 2; 0)", """
            count 22 = 0; set rule 2 = 0; count 22 = 2; set rule 1 = 2; set rule 0 = 1; count 22 = 0
            set rule -1 = INVALID; set rule 3 = INVALID; set rule MIN = INVALID; set rule MAX = INVALID; count 22 = 0
            """);
    }

    private static void ticks() {
        Script.sentence("In a tick each view that is not bankrupt gets a greater debt, by the rate times its arrears", """
            view "sum a 0-0" = 0; view "sum a 1-1" = 1; 3 times put 0 0 1; set rate 7 = 1
            tick = 0; view 0 7 = 21; view 1 7 = 0; count 12 = 21
            put 0 1 1; set limit 500 = 30; tick = 0; view 0 7 = 42; view 1 7 = 7; count 12 = 49
            """, """
            view "sum a 0-0" = 0; put 0 0 1; set rate 0 = 1; tick = 0; view 0 7 = 0; count 12 = 0
            """, """
            view "sum a 0-0" = 0; 200 times put 0 0 1; set rate 20 = 1; set limit 500 = 30
            tick = 1; count 11 = 4000; count 12 = 0; tick = 0; count 11 = 4000
            """, """
            8 times view "sum a 0-0"; 200 times put 0 0 1; set rate 20 = 1; tick = 0b11111111; count 11 = 32000; count 12 = 0
            """, """
            8 times view "sum a 0-0"; 25 times put 0 0 1; set rate 20 = 1; set limit 500 = 30; tick = 0; count 12 = 4000
            tick = 0b11111111; count 11 = 8000; count 12 = 0
            """, """
            view "sum a 0-0" = 0; view "count a 0-0" = 1; view "most a 0-0" = 2; view "join 0-0" = 3; view "less 0 1" = 4
            set rate 9 = 1; put 0 0 1; tick = 0
            view 0 7 = 9; view 1 7 = 9; view 2 7 = 9; view 3 7 = 9; view 4 7 = 9; count 12 = 45; put 0 0 1; tick = 0; count 12 = 135
            """, """
            view "sum a 0-0" = 0; set limit 0 = 30; put 0 0 1; tick = 1; put 0 0 1; tick = 0; view 0 7 = 0; count 11 = 1
            """);
        Script.sentence("A view whose debt is above the limit then (whether it grew or not) becomes bankrupt", """
            view "sum a 0-0" = 0; put 0 0 1; set limit 1 = 30
            tick = 0; view 0 7 = 1; view 0 4 = 0; count 4 = 0
            tick = 1; view 0 4 = 1; count 4 = 1; count 11 = 2
            """, """
            view "sum a 0-0" = 0; 25 times put 0 0 1; set rate 20 = 1; set limit 500 = 30
            tick = 0; view 0 7 = 500; view 0 4 = 0; put 0 1 1; set rate 0 = 20; tick = 0; set limit 499 = 500; tick = 1
            """, """
            view "sum a 0-0" = 0; set limit 500 = 30; put 0 0 1; set rate 20 = 1
            25 times tick = 0; view 0 7 = 500; set rate 1 = 20; tick = 1; count 11 = 501
            """, """
            view "sum a 0-0" = 0; set limit 0 = 30; tick = 0; put 0 0 1; set rate 0 = 1; tick = 0; count 4 = 0
            set rate 1 = 0; tick = 1; count 11 = 1
            """, """
            view "sum a 0-0" = 0; put 0 0 1; tick = 0; tick = 0; set order 1 = 0; pay 0 2 = 2; view 0 6 = 0; view 0 7 = 2
            set limit 2 = 30; tick = 0; set limit 1 = 2; tick = 1; count 11 = 2
            """);
        Script.sentence("Then the treasury becomes greater by the income.", """
            set income 0 = 5; tick = 0; count 6 = 0; count 7 = 0
            set income 100 = 0; tick = 0; count 6 = 100; count 7 = 100; tick = 0; count 6 = 200; count 13 = 3
            8 times tick = 0; count 6 = 1000; count 7 = 1000
            """, """
            view "sum a 0-0" = 0; put 0 0 1; set limit 0 = 30; tick = 1; count 6 = 5; count 7 = 5
            """);
    }

    private static void bankruptcies() {
        Script.sentence("its answer is lost, its debt is written off (it is 0 then), it stands nowhere and has no arrears", """
            view "sum a 0-0" = 0; put 0 0 1; set limit 1 = 30; tick = 0; kept 0 = 0; view 0 8 = 3; needed = 3
            tick = 1
            kept 0 = ILLEGAL; view 0 7 = 0; count 12 = 0; count 11 = 2; view 0 5 = NONE; view 0 6 = 0; view 0 8 = 0
            count 5 = 0; needed = 0; settled 0 9 = 0
            put 0 0 1; view 0 6 = 0; count 5 = 0; needed = 0; ask 0 2 0 = 1
            """);
    }

    private static void payments() {
        String debtor = "view \"sum a 0-0\" = 0; put 0 0 1; set income 0; ";
        Script.sentence("A payment spends coins of the treasury, at most as many as told and as there are.",
            debtor + """
            10 times tick; grant 5 = 5
            pay 0 4 = 4; count 6 = 1; view 0 7 = 6; pay 0 999 = 1; count 6 = 0; view 0 7 = 5; view 0 9 = 5
            pay 0 1 = ILLEGAL; view 0 7 = 5
            """,
            debtor + "put 0 0 2; set order 1; grant 3 = 3; pay 0 999 = 2; count 6 = 1; view 0 6 = 1",
            debtor + "put 0 0 2; tick; set order 1; grant 3 = 3; pay 0 4 = 3; count 6 = 0; view 0 6 = 1; view 0 7 = 1",
            debtor + "put 0 0 2; tick; set order 1; grant 5 = 5; pay 0 999 = 5; count 6 = 0; view 0 6 = 0; view 0 7 = 1");
        Script.sentence("With the order 0 it settles the debt first, coin by coin, and then arrears",
            debtor + "3 times tick; grant 99; pay 0 1 = 1; view 0 7 = 2; view 0 6 = 1; count 8 = 1; count 9 = 0",
            debtor + "3 times tick; grant 99; pay 0 2 = 2; view 0 7 = 1; view 0 6 = 1; count 8 = 2; count 9 = 0",
            debtor + "3 times tick; grant 99; pay 0 3 = 3; view 0 7 = 0; view 0 6 = 1; count 8 = 3; count 9 = 0",
            debtor + "3 times tick; grant 99; pay 0 4 = 3; view 0 7 = 0; view 0 6 = 1; count 8 = 3; count 9 = 0",
            debtor + "3 times tick; grant 99; pay 0 5 = 5; view 0 7 = 0; view 0 6 = 0; count 8 = 3; count 9 = 2",
            debtor + "3 times tick; grant 99; pay 0 6 = 5; view 0 7 = 0; view 0 6 = 0; count 8 = 3; count 9 = 2");
        Script.sentence("with the order 1 arrears first, and then the debt",
            debtor + "3 times tick; set order 1; grant 99; pay 0 2 = 2; view 0 7 = 3; view 0 6 = 0; count 8 = 0; count 9 = 2",
            debtor + "3 times tick; set order 1; grant 99; pay 0 3 = 3; view 0 7 = 2; view 0 6 = 0; count 8 = 1; count 9 = 2",
            debtor + "3 times tick; set order 1; grant 99; pay 0 5 = 5; view 0 7 = 0; view 0 6 = 0; count 8 = 3; count 9 = 2",
            debtor + "3 times tick; set order 1; grant 99; pay 0 6 = 5; view 0 7 = 0; view 0 6 = 0; count 8 = 3; count 9 = 2");
        Script.sentence("coins that are too few for the next one are not spent on it (with the order 1 they go to the debt)",
            debtor + "put 0 0 2; tick; grant 99; pay 0 3 = 2; view 0 7 = 0; view 0 6 = 2; count 6 = 97",
            debtor + "put 0 0 2; tick; grant 99; pay 0 5 = 4; view 0 7 = 0; view 0 6 = 1; count 6 = 95",
            debtor + "put 0 0 2; tick; grant 99; set order 1; pay 0 1 = 1; view 0 7 = 1; view 0 6 = 2; count 6 = 98",
            debtor + "put 0 0 2; tick; grant 99; set order 1; pay 0 3 = 3; view 0 7 = 1; view 0 6 = 1; count 6 = 96",
            debtor + "put 0 0 2; set rate 0; tick; grant 99; set order 1; pay 0 3 = 2; view 0 7 = 0; view 0 6 = 1; count 6 = 97");
    }

    private static void arrears() {
        Script.sentence("Arrears are settled from the earliest one on, each for the price, as long as there are coins enough", """
            view "sum a 0-0" = 0; put 0 0 7; put 0 0 8; put 0 0 9; set price 20; grant 100
            pay 0 19 = 0; view 0 5 = 0; kept 0 = 0; pay 0 20 = 20; view 0 5 = 1; kept 0 = 7
            pay 0 39 = 20; view 0 5 = 2; kept 0 = 8; pay 0 40 = 20; view 0 5 = 3; kept 0 = 9; view 0 9 = 60; pay 0 40 = 0
            """, """
            view "count a 0-0" = 0; view "most a 0-0" = 1; put 0 0 7; set price 1; grant 100
            pay 0 1 = 1; pay 1 1 = 1; count 5 = 0; count 6 = 98
            """);
        Script.sentence("(2 prices for a view of the kind 3 or 4)", """
            view "count a 0-0" = 0; view "most a 0-0" = 1; view "join 0-0" = 2; view "less 0 1" = 3; put 0 0 7; set price 20
            view 0 8 = 20; view 1 8 = 20; view 2 8 = 40; view 3 8 = 40; grant 200
            pay 0 19 = 0; pay 0 20 = 20; pay 1 19 = 0; pay 1 20 = 20; pay 2 39 = 0; pay 2 40 = 40; pay 3 39 = 0; pay 3 40 = 40
            """);
        String debtor = """
            view "sum a 0-5" = 0; put 1 0 9; put 0 0 10; put 0 6 9; put 0 5 20; put 0 11 9; grant 99
            """;
        Script.sentence("goes on to the place of the first of its arrears that is not settled, or to the end of the log",
            debtor + "view 0 5 = 0; pay 0 1 = 0; view 0 5 = 1; kept 0 = 0; view 0 6 = 2",
            debtor + "pay 0 2 = 2; view 0 5 = 3; kept 0 = 10; view 0 6 = 1",
            debtor + "pay 0 4 = 4; view 0 5 = 5; kept 0 = 30; view 0 6 = 0",
            debtor + "set price 1; set order 1; pay 0 9 = 2; view 0 5 = 5; kept 0 = 30; view 0 6 = 0",
            "view \"sum a 0-0\" = 0; put 1 0 1; grant 1; pay 0 1 = 0; view 0 5 = 1; kept 0 = 0; pay 0 1 = 0; view 0 5 = 1",
            debtor + "3 times tick = 0; pay 0 5 = 5; view 0 7 = 1; view 0 5 = 1; kept 0 = 0; view 0 6 = 2; count 9 = 0",
            debtor + "3 times tick = 0; set order 1; pay 0 1 = 1; view 0 7 = 5; view 0 5 = 1; kept 0 = 0; count 8 = 1");
    }

    private static void paymentsOfAll() {
        Script.sentence("To pay all means payments to all views that are not bankrupt, each with as many coins as there are", """
            view "sum a 0-0" = 0; view "sum b 0-0" = 1; put 0 0 1; put 1 0 1; grant 4; payAll = 4; count 5 = 0; count 6 = 0
            """, """
            view "sum a 0-0" = 0; view "sum b 0-0" = 1; put 0 0 1; set limit 0; set income 9; tick = 1; put 1 0 1; put 0 0 1
            payAll = 2; count 6 = 7; count 4 = 1; view 0 9 = 0; view 1 5 = 3
            """, """
            view "sum a 0-0" = 0; put 0 0 1; set limit 0; tick = 1; payAll = 0; count 6 = 5
            """, "grant 1; payAll = 0; count 6 = 1", """
            8 times view "sum a 0-0"; put 0 0 1; grant 15; payAll = 14; count 5 = 0b10000000; grant 2; payAll = 2; count 5 = 0
            """, """
            view "sum a 0-0" = 0; set price 20; 60 times put 0 0 1; 2 times grant 999; payAll = 1200; count 5 = 0; count 6 = 798
            """, """
            view "join 0-0" = 0; view "join 0-0" = 1; set price 20; 200 times put 0 0 1; 10 times grant 999; grant 9 = 9999
            payAll = 9960; count 6 = 39; view 0 6 = 0; view 1 5 = 49; view 1 6 = 151; count 9 = 9960
            """);
        Script.sentence("(perhaps none, by which a view goes on all the same)", """
            view "sum a 0-0" = 0; view "sum b 0-0" = 1; put 0 0 1; put 1 0 1; put 1 0 2; grant 2
            payAll = 2; count 6 = 0; view 0 5 = 3; kept 0 = 1; view 1 5 = 1; kept 1 = 0; view 1 6 = 2
            """, """
            view "sum a 0-0" = 0; view "sum b 0-0" = 1; put 0 0 1; put 0 3 1; grant 2
            payAll = 2; count 6 = 0; view 1 5 = 2; settled 0 1 = 0b11
            """);
    }

    private static void rules() {
        String debts = """
            view "sum a 0-0" = 0; view "sum a 1-1" = 1; view "sum a 2-2" = 2; set income 0
            put 0 0 1; 3 times put 0 1 1; 3 times put 0 2 1; tick = 0
            """;
        Script.sentence("by the rule 0 by ascending numbers",
            debts + "grant 3; payAll = 3; view 0 7 = 0; view 0 6 = 0; view 1 7 = 3; view 2 7 = 3",
            debts + "settled 0 2 = 0; settled 0 3 = 0b001; settled 0 11 = 0b001; settled 0 12 = 0b011; settled 0 20 = 0b011; "
                + "settled 0 21 = 0b111");
        Script.sentence("by the rule 1 those with the greatest debt first; of several those with smaller numbers first",
            debts + "set rule 1; grant 3; payAll = 3; view 0 7 = 1; view 1 7 = 0; view 1 6 = 3; view 2 7 = 3",
            debts + "set rule 1; grant 10; payAll = 10; view 0 7 = 1; view 1 7 = 0; view 1 6 = 0; view 2 7 = 2",
            debts + "settled 1 8 = 0; settled 1 9 = 0b010; settled 1 17 = 0b010; settled 1 18 = 0b110; settled 1 21 = 0b111", """
            view "sum a 0-0" = 0; view "sum a 1-1" = 1; view "sum a 2-2" = 2; set rate 20; set limit 500; set rule 1
            24 times put 0 0 1; 25 times put 0 1 1; put 0 2 1; tick = 0; view 0 7 = 480; view 1 7 = 500; grant 495 = 500
            payAll = 500; view 0 7 = 480; view 1 7 = 0; view 2 7 = 20
            """, """
            view "sum a 0-0" = 0; view "sum a 1-1" = 1; set income 0; put 0 1 1; 5 times tick; set order 1; grant 2; pay 1 2 = 2
            3 times put 0 0 1; set rate 0; view 0 8 = 6; view 1 8 = 5; settled 1 4 = 0; settled 1 5 = 0b10; settled 1 10 = 0b10
            settled 0 6 = 0b01; settled 1 6 = 0b10; grant 5; set rule 1; payAll = 5; view 0 6 = 3; view 1 7 = 0
            """);
        String needs = """
            view "sum a 0-0" = 0; view "sum a 1-1" = 1; view "join 2-2" = 2; view "sum a 3-3" = 3; set rate 0
            put 0 3 1; 3 times put 0 0 1; 2 times put 0 1 1; put 0 2 1
            """;
        Script.sentence("by the rule 2 those first for which the least is needed; of several those with smaller numbers first",
            needs + "view 0 8 = 6; view 1 8 = 4; view 2 8 = 4; view 3 8 = 2",
            needs + "set rule 2; grant 2; payAll = 2; count 5 = 0b0111",
            needs + "set rule 2; grant 6; payAll = 6; count 5 = 0b0101",
            needs + "set rule 2; grant 10; payAll = 10; count 5 = 0b0001",
            needs + "settled 2 1 = 0; settled 2 5 = 0b1000; settled 2 6 = 0b1010; settled 2 9 = 0b1010; settled 2 10 = 0b1110; "
                + "settled 2 15 = 0b1110; settled 2 16 = 0b1111", """
            view "sum a 0-0" = 0; view "sum a 1-1" = 1; put 0 0 1; 3 times tick = 0; 2 times put 0 1 1; view 0 8 = 5; view 1 8 = 4
            settled 2 3 = 0; settled 2 4 = 0b10; settled 2 8 = 0b10; settled 2 9 = 0b11
            """, """
            view "join 0-0" = 0; view "join 1-1" = 1; set price 20; 100 times put 0 0 1; 99 times put 1 1 1
            settled 2 3959 = 0; settled 2 3960 = 0b10; settled 2 7959 = 0b10; settled 2 7960 = 0b11; settled 0 4000 = 0b01
            """);
        rulesForEight();
    }

    /** Views 0 to 7, with the greatest debt and the greatest need at the first one, at the last one, or all alike. */
    private static void rulesForEight() {
        StringBuilder upwards = new StringBuilder();
        StringBuilder downwards = new StringBuilder();
        for (int view = 0; view < 8; view++) {
            upwards.append("view \"sum a " + view + "-" + view + "\" = " + view + "; " + (view + 1) + " times put 0 " + view + " 1; ");
            downwards.append("view \"sum a " + view + "-" + view + "\" = " + view + "; " + (8 - view) + " times put 0 " + view + " 1; ");
        }
        Script.sentence("by the rule 0 by ascending numbers, 1 the greatest debt first, 2 the least needed first: for eight views",
            upwards + """
            tick = 0; needed = 108; view 0 7 = 1; view 7 7 = 8
            settled 0 2 = 0; settled 0 3 = 0b1; settled 0 83 = 0b00111111; settled 0 84 = 0b01111111; settled 0 108 = 0b11111111
            settled 1 23 = 0; settled 1 24 = 0b10000000; settled 1 104 = 0b11111100; settled 1 105 = 0b11111110
            settled 1 107 = 0b11111110; settled 1 108 = 0b11111111
            settled 2 2 = 0; settled 2 3 = 0b1; settled 2 83 = 0b00111111; settled 2 84 = 0b01111111; settled 2 108 = 0b11111111
            """, downwards + """
            tick = 0; needed = 108; view 0 7 = 8; view 7 7 = 1
            settled 0 23 = 0; settled 0 24 = 0b1; settled 0 104 = 0b00111111; settled 0 105 = 0b01111111; settled 0 108 = 0b11111111
            settled 1 23 = 0; settled 1 24 = 0b1; settled 1 104 = 0b00111111; settled 1 105 = 0b01111111; settled 1 108 = 0b11111111
            settled 2 2 = 0; settled 2 3 = 0b10000000; settled 2 9 = 0b11000000; settled 2 84 = 0b11111110; settled 2 108 = 0b11111111
            """, """
            8 times view "sum a 0-0"; put 0 0 1; tick = 0
            settled 0 3 = 0b1; settled 0 20 = 0b00111111; settled 0 21 = 0b01111111; settled 0 24 = 0b11111111
            settled 1 3 = 0b1; settled 1 20 = 0b00111111; settled 1 21 = 0b01111111; settled 1 24 = 0b11111111
            settled 2 3 = 0b1; settled 2 20 = 0b00111111; settled 2 21 = 0b01111111; settled 2 24 = 0b11111111
            """);
    }

    private static void founding() {
        String broke = "set limit 0; put 0 0 1; put 1 0 1; tick; set income 0; ";
        Script.sentence("To found a bankrupt view anew costs 3 times the price for each key of its range, of the kind 3, too",
            "view \"sum a 0-0\"; " + broke + "set price 1; found 0 = 3; count 6 = 2; count 10 = 3; view 0 9 = 3",
            "view \"count b 0-11\"; " + broke + "set price 20; grant 715; found 0 = 720; count 6 = 0",
            "view \"most b 0-11\"; " + broke + "set price 20; grant 714; found 0 = ILLEGAL; count 6 = 719; grant 1; found 0 = 720",
            "view \"join 0-11\"; " + broke + "set price 20; grant 715; found 0 = 720; count 6 = 0",
            "view \"join 0-0\"; " + broke + "found 0 = ILLEGAL; grant 1; found 0 = 6; count 6 = 0");
        String parts = "view \"sum a 0-1\" = 0; view \"join 1-3\" = 1; view \"less 0 1\" = 2; grant 99; put 0 1 1; ";
        Script.sentence("(for a view of the kind 4: as much as for both together, whether they are bankrupt or not)",
            parts + "set limit 0; tick = 0b111; found 2 = 30; count 4 = 0b011",
            parts + "pay 0 2 = 2; pay 1 4 = 4; set limit 0; tick = 0b100; found 2 = 30; count 4 = 0",
            parts + "pay 0 2 = 2; set limit 0; tick = 0b110; found 2 = 30; found 1 = 18",
            parts + "view \"less 2 0\" = 3; put 0 0 1; set limit 0; tick = 0b1111; found 3 = 42");
        String greatest = """
            view "sum a 0-11"; view "sum b 0-11"; view "less 0 1"; view "less 2 1"; view "less 3 2"; view "less 4 3"
            view "less 5 4"; view "less 6 5" = 7; set limit 0; set income 0; put 0 0 1; tick = 0b11111101; 10 times grant 999
            """;
        Script.sentence("(for a view of the kind 4: as much as for both of these), of the greatest number of keys",
            greatest + "set price 13; grant 9; found 7 = 9828; count 6 = 171; count 10 = 9828",
            greatest + "set price 14; grant 9; found 7 = ILLEGAL; set price 20; found 7 = ILLEGAL; found 6 = 9360; count 6 = 639",
            greatest + "set price 13; found 7 = 9828; put 0 0 1; tick = 0b10000000; 9 times grant 999; grant 674; found 7 = ILLEGAL; "
                + "grant 1 = 9828; found 7 = 9828; count 6 = 0; count 7 = 19656; count 10 = 19656; view 7 9 = 19656; view 7 5 = 2");
        Script.sentence("It stands at the end of the log then, and keeps the answer there, without a debt.",
            "view \"sum a 0-0\" = 0; " + broke + """
            put 0 0 7; put 1 1 1; grant 1; found 0 = 6
            view 0 4 = 0; view 0 5 = 4; view 0 6 = 0; view 0 7 = 0; view 0 8 = 0; kept 0 = 7; count 4 = 0
            put 0 0 8; view 0 6 = 1; tick = 1; grant 7; found 0 = 6; view 0 5 = 5; kept 0 = 8; count 10 = 12; view 0 9 = 12
            """, """
            view "sum a 0-0" = 0; set limit 0; 199 times put 0 0 1; tick = 1; put 0 0 9 = 199; grant 1 = 6; found 0 = 6
            view 0 5 = 200; kept 0 = 9; view 0 6 = 0; tick = 0
            """);
    }
}
