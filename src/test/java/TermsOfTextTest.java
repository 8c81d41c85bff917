/** The boundaries of "Text", sentence by sentence. */
public final class TermsOfTextTest {
    private static final String THIRTY_SPACES = " ".repeat(30);

    public static void main(String[] args) {
        length();
        forms();
        tokens();
        numbers();
        spaces();
        faults();
        Check.end("TermsOfTextTest");
    }

    private static void length() {
        Script.sentence("There is a text of at most 40 characters, empty at first.", """
            count 16 = 0; clearText = 0; count 16 = 0; define = fault 0
            """, """
            39 times append 32; count 16 = 39; append 120 = 40; count 16 = 40
            append 32 = FULL; append 1 = FULL; append 255 = FULL; count 16 = 40; define = fault 39; count 16 = 40
            clearText = 40; count 16 = 0; clearText = 0; append 32 = 1
            """,
            "view \"sum a 0-11" + THIRTY_SPACES + "\" = 0; count 16 = 0; view 0 3 = 11",
            "view \"" + THIRTY_SPACES + "sum b 2-11\" = 0; count 16 = 0; view 0 1 = 1; view 0 2 = 2",
            "view \"" + THIRTY_SPACES + "sum a 0-111\" = 0; count 16 = 0; view 0 2 = 0; view 0 3 = 11");
    }

    private static void text(String text, String answer) {
        Script.sentence("A text of a view is one of these",
            "view \"sum a 0-0\" = 0; view \"sum b 0-0\" = 1; view \"" + text + "\" = " + answer);
    }

    private static void forms() {
        Script.sentence("\"sum\" TABLE RANGE, \"count\" TABLE RANGE, \"most\" TABLE RANGE, \"join\" RANGE, \"less\" VIEW VIEW", """
            view "sum a 0-11" = 0; view "count b 3-4" = 1; view "most a 11-11" = 2; view "join 0-0" = 3; view "less 3 0" = 4
            view 0 0 = 0; view 1 0 = 1; view 2 0 = 2; view 3 0 = 3; view 4 0 = 4
            view 0 1 = 0; view 1 1 = 1; view 2 1 = 0; view 3 1 = NONE; view 4 1 = NONE
            view 0 2 = 0; view 1 2 = 3; view 2 2 = 11; view 3 2 = 0; view 4 2 = 3
            view 0 3 = 11; view 1 3 = 4; view 2 3 = 11; view 3 3 = 0; view 4 3 = 0
            """);
        for (String kind : new String[] {"sum", "count", "most"}) {
            int place = kind.length() + 1;
            text(kind + " a 1-2", "2");
            text(kind + " b 1-2", "2");
            text(kind + " 1-2", "fault " + place);
            text(kind + " 1 2", "fault " + place);
            text(kind + " c 1-2", "fault " + place);
            text(kind + " ` 1-2", "fault " + place);
            text(kind + " A 1-2", "fault " + place);
            text(kind + " aa 1-2", "fault " + place);
            text(kind + " ab 1-2", "fault " + place);
            text(kind + " a - 1-2", "fault " + (place + 2));
            text(kind + " a 1 2", "fault " + (place + 4));
            text(kind + " a 1-2 1", "fault " + (place + 6));
            text(kind + " a 1-2-", "fault " + (place + 5));
        }
        text("join 1-2", "2");
        text("join a 1-2", "fault 5");
        text("join 1 2", "fault 7");
        text("join 1-2 3", "fault 9");
        text("less 0 1", "2");
        text("less 0-1", "fault 6");
        text("less a 1", "fault 5");
        text("less 0 b", "fault 7");
        text("less 0 1 0", "fault 9");
        text("least 0 1", "fault 0");
        text("table a 0-1", "fault 0");
    }

    private static void tokens() {
        Script.sentence("Tokens are maximal runs of letters a to z",
            "view \"suma 0-1\" = fault 0", "view \"zsum a 0-1\" = fault 0", "view \"sumz a 0-1\" = fault 0",
            "view \"sum az 0-1\" = fault 4", "view \"sum za 0-1\" = fault 4", "view \"Sum a 0-1\" = fault 0",
            "view \"suM a 0-1\" = fault 0", "view \"sumA 0-1\" = fault 3", "view \"sum aA 0-1\" = fault 5",
            "view \"sum a 0A-1\" = fault 7", "view \"sum a 0-1A\" = fault 9", "view \"joinZ0-1\" = fault 4", "view \"less0A\" = fault 5");
        Script.sentence("maximal runs of letters a to z: the signs beside them",
            "tell \"sum\"; append 96; view \"a 0-1\" = fault 3", "tell \"sum\"; append 123; view \"a 0-1\" = fault 3",
            "append 96; view \"sum a 0-1\" = fault 0", "append 123; view \"sum a 0-1\" = fault 0",
            "tell \"sum a\"; append 96; view \"0-1\" = fault 5", "tell \"sum a\"; append 123; view \"0-1\" = fault 5");
        Script.sentence("maximal runs of digits",
            "view \"sum a 0-123\" = fault 8", "view \"sum a 123-1\" = fault 6", "view \"sum a 1 1-1\" = fault 8",
            "view \"sum a 0-1 1\" = fault 10", "view \"sum a 9-9\" = 0", "view \"sum a 0-9\" = 0");
        Script.sentence("maximal runs of digits: the signs beside them",
            "tell \"sum a 0-1\"; append 47; define = fault 9", "tell \"sum a 0-1\"; append 58; define = fault 9",
            "tell \"sum a 1\"; append 47; view \"-2\" = fault 7", "tell \"sum a 1\"; append 58; view \"-2\" = fault 7",
            "tell \"sum a \"; append 47; view \"-2\" = fault 6", "tell \"sum a \"; append 58; view \"-2\" = fault 6");
        Script.sentence("and any other character that is no space",
            "view \"sum a 0--1\" = fault 8", "view \"sum a 0-1--\" = fault 9", "view \"sum a 0_1\" = fault 7",
            "append 1; view \"sum a 0-1\" = fault 0", "append 255; view \"sum a 0-1\" = fault 0",
            "append 31; view \"sum a 0-1\" = fault 0", "append 33; view \"sum a 0-1\" = fault 0",
            "append 9; view \"sum a 0-1\" = fault 0", "append 10; view \"sum a 0-1\" = fault 0",
            "append 160; view \"sum a 0-1\" = fault 0", "append 225; view \"sum a 0-1\" = fault 0",
            "tell \"sum a 0\"; append 173; view \"1\" = fault 7", "tell \"sum a 0-1\"; append 1; define = fault 9",
            "tell \"sum a 0-1\"; append 255; define = fault 9", "tell \"sum\"; append 9; view \"a 0-1\" = fault 3");
    }

    private static void numbers() {
        Script.sentence("A number is a run of 1 or 2 digits, the first of two not 0.",
            "view \"sum a 0-0\" = 0; view 0 2 = 0; view 0 3 = 0",
            "view \"sum a 9-9\" = 0; view 0 2 = 9; view 0 3 = 9",
            "view \"sum a 10-11\" = 0; view 0 2 = 10; view 0 3 = 11",
            "view \"sum a 00-1\" = fault 6", "view \"sum a 01-1\" = fault 6", "view \"sum a 0-00\" = fault 8",
            "view \"sum a 0-01\" = fault 8", "view \"sum a 0-09\" = fault 8", "view \"sum a 000-1\" = fault 6",
            "view \"sum a 0-99\" = INVALID", "view \"sum a 0-100\" = fault 8", "view \"sum a 99-99\" = INVALID",
            "view \"sum a 100-100\" = fault 6", "view \"sum a 0-1000\" = fault 8", "view \"join 1-011\" = fault 7",
            "view \"less 99 98\" = INVALID", "view \"less 100 1\" = fault 5", "view \"less 1 100\" = fault 7",
            "view \"less 00 1\" = fault 5", "view \"less 1 00\" = fault 7", "view \"less 0 01\" = fault 7");
    }

    private static void spaces() {
        Script.sentence("Spaces (code 32) may stand before, between and after tokens",
            "view \" sum a 0-1\" = 0", "view \"   sum   a   0   -   1   \" = 0", "view \"sum a 0 - 1\" = 0",
            "view \"sum a 0- 1\" = 0", "view \"sum a 0 -1 \" = 0", "view \" join  3 -  4 \" = 0",
            "view \"sum a 0-0\" = 0; view \"sum a 0-0\" = 1; view \"  less  1  0  \" = 2; view 2 2 = 1; view 2 3 = 0",
            "view \"su m a 0-1\" = fault 0", "view \"sum a 1 1-11\" = fault 8", "view \"sum a 0-1 1\" = fault 10");
        Script.sentence("may stand before, between and after tokens, up to the last character of a full text",
            "view \"sum a 0-0\" = 0; view \"sum a 0-0\" = 1; view \"less 1" + THIRTY_SPACES + "   0\" = 2; view 2 3 = 0",
            "view \"join 9-" + THIRTY_SPACES + "  9\" = 0; view 0 2 = 9; view 0 3 = 9",
            "view \"join" + THIRTY_SPACES + "9-11 \" = 0; view 0 2 = 9; view 0 3 = 11",
            "tell \"join 9-" + THIRTY_SPACES + "  1\"; count 16 = 40; append 49 = FULL; define = INVALID",
            "view \"join 0-" + THIRTY_SPACES + "  x\" = fault 39", "view \"join 0" + THIRTY_SPACES + "   -\" = fault 40",
            "view \"join 0-" + THIRTY_SPACES + " 00\" = fault 38", "view \"join 0-" + THIRTY_SPACES + " 10\" = 0; view 0 3 = 10");
        Script.sentence("they are needed only between two runs of letters and between two runs of digits",
            "view \"sum a0-1\" = 0; view 0 1 = 0", "view \"join0-1\" = 0", "view \"most b10-11\" = 0; view 0 2 = 10",
            "view \"suma0-1\" = fault 0", "view \"suma 0-1\" = fault 0", "view \"less01\" = fault 4",
            "view \"sum a 0-0\"; view \"sum a 0-0\"; view \"less1 0\" = 2; view 2 2 = 1", "view \"less10\" = fault 6",
            "view \"less12 \" = fault 7");
    }

    private static void faults() {
        Script.sentence("the index, from 0, of the first character of the first token that is not allowed at its place",
            "view \"x\" = fault 0", "view \"xyz\" = fault 0", "view \" xyz\" = fault 1", "view \"a\" = fault 0",
            "view \"0\" = fault 0", "view \"-\" = fault 0", "view \"sum sum 0-1\" = fault 4", "view \"sum a a\" = fault 6",
            "view \"sum a 0-a\" = fault 8", "view \"sum a -1\" = fault 6", "view \"join join\" = fault 5",
            "view \"x a 00-100 y\" = fault 0", "view \"sum a 00-100 y\" = fault 6", "view \"sum a 12-100 y\" = fault 9",
            "view \"sum a 12-99 y\" = fault 12", "view \"sum a 0-1 sum a 0-1\" = fault 10",
            "view \"sum a 0-0" + THIRTY_SPACES + "x\" = fault 39", "view \"sum a 0-0" + THIRTY_SPACES + "0\" = fault 39",
            "view \"" + THIRTY_SPACES + "         x\" = fault 39");
        Script.sentence("or the length of the text if it ends too early (as the empty text does)",
            "define = fault 0", "view \" \" = fault 1", "view \"sum\" = fault 3", "view \"sum \" = fault 4",
            "view \"sum a\" = fault 5", "view \"sum a 0\" = fault 7", "view \"sum a 0-\" = fault 8",
            "view \"sum a 0-   \" = fault 11", "view \"count\" = fault 5", "view \"most b\" = fault 6",
            "view \"join\" = fault 4", "view \"join 1\" = fault 6", "view \"join 1-\" = fault 7", "view \"less\" = fault 4",
            "view \"less 1\" = fault 6", "view \"less 1 \" = fault 7",
            "view \"" + THIRTY_SPACES + "          \" = fault 40", "view \"sum a 0-" + THIRTY_SPACES + "  \" = fault 40",
            "view \"" + THIRTY_SPACES + "  sum a 0-\" = fault 40");
    }
}
