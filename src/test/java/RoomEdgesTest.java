/** The document's terms, part 2: a test of its own for each sentence of A ROOM that names an edge. */
public final class RoomEdgesTest {
    private static final String WHOLE = "c20;t5;s7 20 100;m100l100v100w100;x0;m5w7;x1v2;m3l4;";
    private static final String SEVEN_SENDERS = "s0 0 0;s0 0 0;s0 0 0;s0 0 0;s0 0 0;s0 0 0;s0 0 0;";
    private static final String SEVEN_RETURNERS = "m0;x0;m0;x0;m0;x0;m0;";

    private static final Check CHECK = new Check();

    public static void main(String[] args) {
        oneStatementAtLeast();
        eachWithItsEnd();
        letters();
        kindIsOneDigit();
        blanks();
        partsInTheirOrder();
        partsLeftOut();
        numbersOfOneToThreeDigits();
        noNullAhead();
        digitsAlone();
        faultAtEachByte();
        faultWhereItEndsTooEarly();
        faultAtTheEdgesOfARow();
        faultIsNoRange();
        faultOfNumbersOutOfRange();
        faultOfNoRoom();
        faultOfNoRoomForWhatIsAhead();
        faultOfCoinsBehindAPair();
        faultOfKind1GoesAhead();
        faultIsTheFirst();
        withoutFaultAllComes();
        withFaultNothingComes();
        rowStays();
        fullText();
        CHECK.end();
    }

    private static void about(String sentence) {
        CHECK.about(sentence);
    }

    private static void text(String text, int want) {
        new Run(CHECK).text(text, want);
    }

    private static void oneStatementAtLeast() {
        about("At least one STATEMENT");
        new Run(CHECK).due("row(0, 0, 0)", 0).due("room(0)", -1000);
        text("", -1000);
        text(";", -1000);
        text("t1;", 1);
    }

    private static void eachWithItsEnd() {
        about("STATEMENTS, each with ; behind");
        text("t1", -1002);
        text("t1;t1", -1005);
        text("t1;;", -1003);
        text("t1 ;", -1002);
        text("t1; t1;", -1003);
        text("t1:", -1002);
        text("t1t1;", -1002);
    }

    private static void letters() {
        about("s, m (MAN) or x (BOX), c, t");
        String[] letters = {"S", "M", "X", "C", "T", "r", "u", "l", "n", "w", "y", "b", "d", "v", " ", "0"};
        for (String letter : letters) {
            text(letter + "1;", -1000);
            text("t1;" + letter + "1;", -1003);
        }
    }

    private static void kindIsOneDigit() {
        about("s, KIND (a digit), a blank");
        text("s", -1001);
        text("s;", -1001);
        text("s 0 0;", -1001);
        text("s/ 0 0;", -1001);
        text("s: 0 0;", -1001);
        text("s0", -1002);
        text("s00 0 0;", -1002);
        text("s10 0 0;", -1002);
        text("s0;", -1002);
    }

    private static void blanks() {
        about("KIND (a digit), a blank, FIGURE, a blank, HOLDS");
        text("s0\t0 0;", -1002);
        text("s0  0 0;", -1003);
        text("s0 0;", -1004);
        text("s0 0  0;", -1005);
        text("s0 0 ;", -1005);
        text("s0 0 0 ;", -1006);
        text("s0 0 0 0;", -1006);
        text("s0 0 0l1;", -1006);
    }

    private static void partsInTheirOrder() {
        about("then perhaps l and LEAST, then perhaps v and SEEN, then perhaps w and WORD");
        String[] ends = {"", "l1", "v2", "w3", "l1v2", "l1w3", "v2w3", "l1v2w3"};
        for (String end : ends) {
            text("m1" + end + ";", 1);
            text("x1" + end + ";", 1);
        }
        text("m1l1l1;", -1004);
        text("m1v1v1;", -1004);
        text("m1w1w1;", -1004);
        text("m1v1l1;", -1004);
        text("m1w1l1;", -1004);
        text("m1w1v1;", -1004);
        text("m1l1v1w1l1;", -1008);
        text("ml1;", -1001);
        text("m1l;", -1003);
        text("m1lv1;", -1003);
        text("m1v;", -1003);
        text("m1w;", -1003);
        text("c1l1;", -1002);
        text("t1w1;", -1002);
    }

    private static void partsLeftOut() {
        about("(0 each else)");
        Run run = new Run(CHECK, "m9l8v7w6;x9l8v7w6;m5;x5v4;m5w3;");
        // What the text ahead of it said at the same places counts no more.
        run.text("m1;x2;", 2);
        int[][] want = {{8, 7, 6}, {8, 7, 6}, {0, 0, 0}, {0, 4, 0}, {0, 0, 3}, {0, 0, 0}, {0, 0, 0}};
        for (int r = 0; r < want.length; r++) {
            for (int what = 2; what <= 4; what++) {
                run.due("returner(" + r + ", " + what + ")", want[r][what - 2]);
            }
        }
    }

    private static void numbersOfOneToThreeDigits() {
        about("NUMBERS have 1 to 3 digits");
        text("c;", -1001);
        text("c1;", 1);
        text("c20;", 1);
        text("m100;", 1);
        text("m1000;", -1004);
        text("m100", -1004);
        text("s0 1000 0;", -1006);
        text("s0 0 1000;", -1008);
        text("m1l1000;", -1006);
        text("m1v1000;", -1006);
        text("m1w1000;", -1006);
        text("t1000;", -1004);
    }

    private static void noNullAhead() {
        about("no 0 ahead of another");
        text("m0;", 1);
        text("m10;", 1);
        text("m00;", -1002);
        text("m01;", -1002);
        text("m001;", -1002);
        text("c05;", -1002);
        text("t03;", -1002);
        text("s0 00 0;", -1004);
        text("s0 0 05;", -1006);
        text("m1l01;", -1004);
        text("m1v00;", -1004);
        text("m1w09;", -1004);
    }

    private static void digitsAlone() {
        about("NUMBERS have 1 to 3 digits: the bytes next to them are none");
        text("c/;", -1001);
        text("c:;", -1001);
        text("c1/;", -1002);
        text("c1:;", -1002);
        text("c-1;", -1001);
        text("c+1;", -1001);
        // Bytes above 127 are below 0 in their row; the null byte is no end.
        text("c" + (char) 177 + ";", -1001);
        text("t1;" + (char) 0, -1003);
        text("t1" + (char) 187, -1002);
        text("" + (char) 255, -1000);
    }

    private static void faultAtEachByte() {
        about("kind 1 the place of the first byte with which no ROOM can go on");
        for (int i = 0; i < WHOLE.length(); i++) {
            text(WHOLE.substring(0, i) + "?" + WHOLE.substring(i + 1), -1000 - i);
        }
    }

    private static void faultWhereItEndsTooEarly() {
        about("(the size, if it ends too early)");
        int statements = 0;
        for (int i = 0; i <= WHOLE.length(); i++) {
            boolean whole = i > 0 && WHOLE.charAt(i - 1) == ';';
            statements += whole ? 1 : 0;
            text(WHOLE.substring(0, i), whole ? statements : -1000 - i);
        }
    }

    private static void faultAtTheEdgesOfARow() {
        about("-1000 times the kind less the place: 0 and 99, and 100, the size");
        String ninetyNine = "t1;".repeat(33);
        text("?" + ninetyNine, -1000);
        text(ninetyNine + "?", -1099);
        text(ninetyNine + "t", -1100);
        text("t6;" + "t1;".repeat(32), -2000);
        text("t1;".repeat(32) + "t6;", -2096);
        text("t1;".repeat(32) + "c21;", -2096);
    }

    private static void faultIsNoRange() {
        about("kind 1: no ROOM can go on; a number out of range is of kind 2");
        text("s9", -1002);
        text("c99", -1003);
        text("m999", -1004);
        text("s9 999 999;", -2000);
        text("m999l999v999w999;", -2000);
    }

    private static void faultOfNumbersOutOfRange() {
        about("kind 2 the place of the letter of the first STATEMENT that isn't as told (a number out of range)");
        String[] told = {"s7 20 100;", "m100;", "x100;", "m0l100;", "m0v100;", "m0w100;", "c1;", "c20;", "t1;", "t5;"};
        String[] untold = {"s8 0 0;", "s0 21 0;", "s0 0 101;", "m101;", "x101;", "m0l101;", "x0v101;", "m0w101;", "c0;",
            "c21;", "t0;", "t6;"};
        for (String statement : told) {
            text(statement, 1);
        }
        for (String statement : untold) {
            text(statement, -2000);
            text("t1;" + statement, -2003);
            text(statement + "t1;", -2000);
        }
    }

    private static void faultOfNoRoom() {
        about("no room");
        new Run(CHECK, SEVEN_SENDERS + "s0 0 0;").text("s0 0 0;", -2000).text("t1;s0 0 0;", -2003).text("m0;", 1);
        new Run(CHECK, SEVEN_RETURNERS + "x0;").text("m0;", -2000).text("x0;", -2000).text("t1;x0;", -2003)
            .text("s0 0 0;", 1);
    }

    private static void faultOfNoRoomForWhatIsAhead() {
        about("STATEMENTS are tried one behind the other, each on what those ahead of it made");
        new Run(CHECK, SEVEN_SENDERS).text("s0 0 0;s0 0 0;", -2007).due("count(0)", 7).text("s0 0 0;", 1);
        new Run(CHECK, SEVEN_RETURNERS).text("m0;x0;", -2003).due("count(1)", 7).text("x0;", 1);
        text(SEVEN_SENDERS + "s0 0 0;s0 0 0;", -2056);
        text(SEVEN_RETURNERS + "m0;m0;", -2024);
        text(SEVEN_RETURNERS + "m0;t9;m0;", -2024);
    }

    private static void faultOfCoinsBehindAPair() {
        about("c, t: a PAIR is written down");
        Run run = new Run(CHECK, "c10;t3;s0 0 0;m0;").due("image()", 0).due("pair(0, 0, false)", 0);
        run.text("c10;", -2000).text("t3;", -2000).text("m0;c10;", -2003).text("m0;t3;", -2003);
        run.text("m0;s0 0 0;", 2).due("restore()", 0).text("c9;t4;", 2);
    }

    private static void faultOfKind1GoesAhead() {
        about("kind 1 (of any place) goes ahead of kind 2");
        text("c0;?", -1003);
        text("c0;t", -1004);
        text("?c0;", -1000);
        text("s9 99 999;m101", -1014);
    }

    private static void faultIsTheFirst() {
        about("the first that can't be done so is told");
        text("c1;t6;c0;", -2003);
        text("c0;t6;", -2000);
        text("c1;m0;s0 0 0;x101;t0;", -2013);
    }

    private static void withoutFaultAllComes() {
        about("Without FAULT all of it comes");
        Run run = new Run(CHECK).text("c1;s1 2 3;t2;x4l5v6w7;m8;s7 20 100;c20;t5;", 8);
        run.due("count(0)", 2).due("count(1)", 2).due("count(5)", 20).due("count(6)", 5);
        int[] sender = {1, 2, 3};
        int[] returner = {1, 4, 5, 6, 7, -4};
        for (int what = 0; what < sender.length; what++) {
            run.due("sender(0, " + what + ")", sender[what]);
        }
        for (int what = 0; what < returner.length; what++) {
            run.due("returner(0, " + what + ")", returner[what]);
        }
        run.due("returner(1, 0)", 0).due("returner(1, 1)", 8).due("sender(1, 1)", 20);
    }

    private static void withFaultNothingComes() {
        about("with one nothing");
        String[] faults = {"c5;t4;s0 1 1;m1;x1;?", "c5;t4;s0 1 1;m1;x1;t", "c5;t4;s0 1 1;m1;x1;c0;",
            "c5;t4;s0 1 1;m1;x1;t6;"};
        for (String fault : faults) {
            Run run = new Run(CHECK, "s3 5 6;");
            String read = run.read(fault);
            CHECK.due("a fault of " + fault, read.startsWith("-") ? 1 : 0, 1);
            run.due("count(0)", 1).due("count(1)", 0).due("count(5)", 10).due("count(6)", 3).due("sender(0, 1)", 5);
        }
    }

    private static void rowStays() {
        about("The ROW that is read .. stay(s) there");
        new Run(CHECK).text("t4;", 1).row(7, 't', '4', ';').due("room(7)", 1);
        new Run(CHECK).text("t6;", -2000).row(7, 't', '6', ';').due("room(7)", -2000);
        new Run(CHECK).text("t?;", -1001).row(7, 't', '?', ';').due("put(7, 1, 52)", 0).due("room(7)", 1);
    }

    private static void fullText() {
        about("room: how many STATEMENTS: of 100 bytes");
        String least = "t1;".repeat(32);
        text(least + "c10;", 33);
        String full = SEVEN_SENDERS + "s7 20 100;" + SEVEN_RETURNERS + "x100;c20;t1;";
        CHECK.due("its size", full.length(), 92);
        new Run(CHECK).text(full, 18).due("count(0)", 8).due("count(1)", 8).due("count(5)", 20)
            .due("count(6)", 1).due("sender(7, 2)", 100).due("returner(7, 1)", 100);
    }
}
