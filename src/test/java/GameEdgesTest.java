/** The document's terms, part 1: a test of its own for each sentence of THE GAME that names an edge. */
public final class GameEdgesTest {
    // The next draw below 100 from each: 0, 99 and 15 (from 1 on they are 38, 58, 13, 15, 51).
    private static final int Z_OF_0 = 132;
    private static final int Z_OF_99 = 194;
    private static final int Z_OF_15 = 662824084;

    private static final Check CHECK = new Check();

    public static void main(String[] args) {
        coins();
        times();
        sendersAsTheyCome();
        kindsOfSenders();
        figures();
        hundredthsHeld();
        returnersAsTheyCome();
        numbersOfReturners();
        names();
        namesOfNothing();
        sendingOfFigure();
        sendingOfReckoned();
        sendingOfGiven();
        sendingOfTestedAtFirst();
        sendingOfTestedThen();
        sendingOfTestedWhenNothingCameBack();
        sendingOfNamed();
        sendingOfNamedWithoutName();
        sendingOfLotted();
        sendingOfPromised();
        sendingOfFeared();
        backBelowLeast();
        backOfMen();
        backOfMenSeen();
        backOfBoxes();
        drawsFromOne();
        drawsThatWrapAround();
        drawsWithoutSign();
        drawsOfPairs();
        noDrawForNothing();
        whatBothHave();
        hundredPairs();
        faiths();
        shelves();
        sortsOfRows();
        sizesOfRows();
        lowestBits();
        CHECK.end();
    }

    private static Run about(String sentence, String room) {
        CHECK.about(sentence);
        return new Run(CHECK, room);
    }

    private static Run about(String sentence) {
        CHECK.about(sentence);
        return new Run(CHECK);
    }

    /** What a sender told as a statement sends to a returner told as one, the next draws being those from z. */
    private static void sends(String game, int z, int want) {
        new Run(CHECK, game).due("set(2, " + z + ")", 1).due("sends(0, 0)", want).due("pair(0, 0, false)", want);
    }

    /** BACK of n coins from the only returner, asked in mind. */
    private static void back(String game, int z, int n, boolean seen, int want) {
        new Run(CHECK, game).due("set(2, " + z + ")", 1).due("back(0, " + n + ", " + seen + ")", want);
    }

    private static void coins() {
        about("COINS (1 .. 20; 10 at first)").due("count(5)", 10).due("set(0, 1)", 10).due("set(0, 20)", 1)
            .due("set(0, 0)", -1).due("set(0, 21)", -1).due("set(0, -1)", -1).due("set(0, MIN)", -1)
            .due("set(0, MAX)", -1).due("count(5)", 20)
            .text("c1;", 1).due("count(5)", 1).text("c20;", 1).due("count(5)", 20)
            .text("c0;", -2000).text("c21;", -2000).due("count(5)", 20);
    }

    private static void times() {
        about("TIMES (1 .. 5; 3 at first)").due("count(6)", 3).due("set(1, 1)", 3).due("set(1, 5)", 1)
            .due("set(1, 0)", -1).due("set(1, 6)", -1).due("set(1, -1)", -1).due("set(1, MIN)", -1)
            .due("set(1, MAX)", -1).due("count(6)", 5)
            .text("t1;", 1).due("count(6)", 1).text("t5;", 1).due("count(6)", 5)
            .text("t0;", -2000).text("t6;", -2000).due("count(6)", 5);
    }

    private static void sendersAsTheyCome() {
        Run run = about("SENDERS 0 .. 7 as they come", "s0 10 0;s0 11 0;s0 12 0;");
        run.text("s0 13 0;s0 14 0;s0 15 0;s0 16 0;", 4).text("s0 17 0;", 1);
        for (int s = 0; s < 8; s++) {
            run.due("sender(" + s + ", 1)", 10 + s);
        }
        run.text("s0 18 0;", -2000).due("count(0)", 8).due("sender(8, 1)", -1).due("sender(-1, 1)", -1);
    }

    private static void kindsOfSenders() {
        Run run = about("of KINDS: 0 SENDING .. 7 FEARED");
        for (int kind = 0; kind < 8; kind++) {
            run.text("s" + kind + " 0 0;", 1).due("sender(" + kind + ", 0)", kind);
        }
        about("of KINDS: 0 SENDING .. 7 FEARED").text("s8 0 0;", -2000).text("s9 0 0;", -2000).due("count(0)", 0);
    }

    private static void figures() {
        about("a FIGURE (0 .. 20)").text("s0 0 0;", 1).text("s0 20 0;", 1).text("s0 21 0;", -2000)
            .due("sender(0, 1)", 0).due("sender(1, 1)", 20).due("count(0)", 2);
    }

    private static void hundredthsHeld() {
        about("HOLDS (0 .. 100 hundredths)").text("s0 0 0;", 1).text("s0 0 100;", 1).text("s0 0 101;", -2000)
            .due("sender(0, 2)", 0).due("sender(1, 2)", 100).due("count(0)", 2)
            .due("holds(0, 100)", 0).due("holds(0, 101)", -1).due("holds(0, 0)", 100).due("holds(0, -1)", -1)
            .due("sender(0, 2)", 0);
    }

    private static void returnersAsTheyCome() {
        Run run = about("RETURNERS 0 .. 7 as they come: MEN or BOXES", "m10;x11;m12;");
        run.text("x13;m14;x15;m16;", 4).text("x17;", 1);
        for (int r = 0; r < 8; r++) {
            run.due("returner(" + r + ", 0)", r % 2).due("returner(" + r + ", 1)", 10 + r);
        }
        run.text("m18;", -2000).text("x18;", -2000).due("count(1)", 8);
        run.due("returner(8, 1)", -1).due("returner(-1, 1)", -1);
    }

    private static void numbersOfReturners() {
        about("SHARE (0 .. 100 hundredths)").text("m0;x100;", 2).text("m101;", -2000).text("x101;", -2000)
            .due("returner(0, 1)", 0).due("returner(1, 1)", 100).due("count(1)", 2);
        about("LEAST (0 .. 100 coins)").text("m1l0;x1l100;", 2).text("m1l101;", -2000).text("x1l101;", -2000)
            .due("returner(0, 2)", 0).due("returner(1, 2)", 100).due("count(1)", 2);
        about("SEEN (0 .. 100)").text("m1v0;x1v100;", 2).text("m1v101;", -2000).text("x1v101;", -2000)
            .due("returner(0, 3)", 0).due("returner(1, 3)", 100).due("count(1)", 2);
        about("WORD (0 .. 100)").text("m1w0;x1w100;", 2).text("m1w101;", -2000).text("x1w101;", -2000)
            .due("returner(0, 4)", 0).due("returner(1, 4)", 100).due("count(1)", 2);
    }

    private static void names() {
        Run run = about("NAME: hundredths, cut, of all that ever came to it that it sent back",
            "s0 1 0;s0 10 0;m67;m33;m100;m100l4;");
        // 2 of 3; 0 of 3, which is a NAME; all of it; 0 of 3 (below LEAST), then 30 of 33.
        run.due("pair(0, 0, false)", 1).due("returner(0, 5)", 66);
        run.due("pair(0, 1, false)", 1).due("returner(1, 5)", 0);
        run.due("pair(1, 2, false)", 10).due("returner(2, 5)", 100);
        run.due("pair(0, 3, false)", 1).due("returner(3, 5)", 0);
        run.due("pair(1, 3, false)", 10).due("returner(3, 5)", 90);
        about("NAME: 1 hundredth; 1 coin that came", "c20;t5;s0 20 7;m1;").due("pair(0, 0, false)", 20)
            .due("returner(0, 5)", 1).due("held(0, 0)", 6);
        about("NAME: 1 hundredth; 1 coin that came", "t1;s0 1 7;m100;m99;").due("all()", 2)
            .due("returner(0, 5)", 100).due("returner(1, 5)", 0);
    }

    private static void namesOfNothing() {
        about("NAME (-1: nothing came yet); of a RETURNER: 5 NAME (-4: none)", "s0 0 0;s0 1 0;m50;m50;")
            .due("returner(0, 5)", -4).due("pair(0, 0, false)", 0).due("returner(0, 5)", -4)
            .due("held(0, 0)", -1000000003).due("pair(1, 0, false)", 1).due("returner(0, 5)", 33)
            .due("returner(1, 5)", -4);
    }

    private static void sendingOfFigure() {
        CHECK.about("SENDS (COINS at most): SENDING: FIGURE");
        sends("s0 0 0;m0;", 1, 0);
        sends("s0 9 0;m0;", 1, 9);
        sends("s0 10 0;m0;", 1, 10);
        sends("s0 11 0;m0;", 1, 10);
        sends("c20;s0 20 0;m0;", 1, 20);
        sends("c1;s0 20 0;m0;", 1, 1);
    }

    private static void sendingOfReckoned() {
        CHECK.about("RECKONED: all COINS, if TIMES times HOLDS is above 100; else none");
        sends("t1;s1 5 100;m0;", 1, 0);
        sends("t2;s1 5 50;m0;", 1, 0);
        sends("t2;s1 5 51;m0;", 1, 10);
        sends("t3;s1 5 33;m0;", 1, 0);
        sends("t3;s1 5 34;m0;", 1, 10);
        sends("t4;s1 5 25;m0;", 1, 0);
        sends("t4;s1 5 26;m0;", 1, 10);
        sends("t5;c20;s1 0 20;m0;", 1, 0);
        sends("t5;c20;s1 0 21;m0;", 1, 20);
        sends("t5;c1;s1 20 100;m0;", 1, 1);
        sends("t5;s1 20 0;m0;", 1, 0);
    }

    private static void sendingOfGiven() {
        CHECK.about("GIVEN: FIGURE by 2, cut (COINS at most)");
        sends("s2 0 0;m0;", 1, 0);
        sends("s2 1 0;m0;", 1, 0);
        sends("s2 2 0;m0;", 1, 1);
        sends("s2 19 0;m0;", 1, 9);
        sends("s2 20 0;m0;", 1, 10);
        sends("c9;s2 20 0;m0;", 1, 9);
        sends("c1;s2 20 0;m0;", 1, 1);
    }

    private static void sendingOfTestedAtFirst() {
        about("TESTED: 1, if it never sent to that one", "c1;s3 20 0;s3 0 0;m100;m100;")
            .due("sends(0, 0)", 1).due("pair(1, 0, false)", 1).due("pair(0, 1, false)", 1)
            .due("sends(0, 0)", 1).due("sends(1, 1)", 1);
    }

    private static void sendingOfTestedThen() {
        about("TESTED: else what came back of its last sending to that one (0 .. COINS)", "c9;s3 20 0;m100;m34;")
            .due("pair(0, 0, false)", 1).due("pair(0, 0, false)", 3).due("sends(0, 0)", 9)
            .due("pair(0, 1, false)", 1).due("pair(0, 0, false)", 9).due("sends(0, 0)", 9)
            .due("of(4, 0)", -4).due("of(3, 4)", 27).due("sends(0, 1)", 1);
        about("TESTED: else what came back of its last sending to that one (0 .. COINS)", "c8;s3 0 0;m100;")
            .due("pair(0, 0, false)", 1).due("pair(0, 0, false)", 3).due("sends(0, 0)", 8);
    }

    private static void sendingOfTestedWhenNothingCameBack() {
        about("TESTED: else what came back of its last sending: nothing, ever since", "s3 20 0;m33;")
            .due("pair(0, 0, false)", 1).due("sends(0, 0)", 0).due("pair(0, 0, false)", 0)
            .due("sends(0, 0)", 0).due("pair(0, 0, true)", 0);
    }

    private static void sendingOfNamed() {
        // 100 come to each; the NAMES are 20, 21 and 0.
        about("NAMED: as a RECKONED one with the NAME in place of HOLDS", "c20;t5;s0 20 0;s4 0 100;s4 0 0;m20;m21;m0;")
            .due("pair(0, 0, false)", 20).due("pair(0, 1, false)", 20).due("pair(0, 2, false)", 20)
            .due("sends(1, 0)", 0).due("sends(1, 1)", 20).due("sends(1, 2)", 0)
            .due("sends(2, 0)", 0).due("sends(2, 1)", 20).due("sends(2, 2)", 0);
    }

    private static void sendingOfNamedWithoutName() {
        about("NAMED: .. in place of HOLDS, if it has one", "s0 0 0;s4 0 33;s4 0 34;m100;")
            .due("sends(1, 0)", 0).due("sends(2, 0)", 10).due("pair(0, 0, true)", 0)
            .due("sends(1, 0)", 0).due("sends(2, 0)", 10);
    }

    private static void sendingOfLotted() {
        CHECK.about("LOTTED: a DRAW below 100; below 5 times FIGURE all COINS, else none");
        sends("s5 0 0;m0;", Z_OF_0, 0);
        sends("s5 1 0;m0;", Z_OF_0, 10);
        sends("s5 3 0;m0;", Z_OF_15, 0);
        sends("s5 4 0;m0;", Z_OF_15, 10);
        sends("s5 19 0;m0;", Z_OF_99, 0);
        sends("c20;s5 20 0;m0;", Z_OF_99, 20);
    }

    private static void sendingOfPromised() {
        CHECK.about("PROMISED: half of HOLDS and WORD together, cut, in place of HOLDS");
        sends("s6 0 0;m0w67;", 1, 0);
        sends("s6 0 0;m0w68;", 1, 10);
        sends("s6 0 67;m0;", 1, 0);
        sends("s6 0 68;m0;", 1, 10);
        sends("s6 0 34;x0w33;", 1, 0);
        sends("t1;s6 0 100;x0w100;", 1, 0);
        sends("t2;s6 0 100;x0w1;", 1, 0);
        sends("t2;s6 0 100;x0w2;", 1, 10);
    }

    private static void sendingOfFeared() {
        CHECK.about("FEARED: to a BOX as a LOTTED one; to a MAN half of COINS, cut, if a LOTTED one would send all");
        sends("s7 3 0;x0;", Z_OF_15, 0);
        sends("s7 4 0;x0;", Z_OF_15, 10);
        sends("s7 3 0;m0;", Z_OF_15, 0);
        sends("s7 4 0;m0;", Z_OF_15, 5);
        sends("c1;s7 20 0;m0;", Z_OF_99, 0);
        sends("c1;s7 20 0;x0;", Z_OF_99, 1);
        sends("c19;s7 20 0;m0;", Z_OF_99, 9);
        sends("s7 0 0;x0;", Z_OF_0, 0);
        sends("s7 0 0;m0;", Z_OF_0, 0);
    }

    private static void backBelowLeast() {
        CHECK.about("BACK: below LEAST nothing");
        back("m100l29;", 1, 10, false, 30);
        back("m100l30;", 1, 10, false, 30);
        back("m100l31;", 1, 10, true, 0);
        back("x100l30;", 1, 10, false, 30);
        back("x100l31;", 1, 10, false, 0);
        back("c20;t5;m100l100;", 1, 20, false, 100);
        back("c20;t5;m100l100;", 1, 19, false, 0);
        back("m100l1;", 1, 0, true, 0);
        back("x100;", Z_OF_0, 0, false, 0);
    }

    private static void backOfMen() {
        CHECK.about("MAN: SHARE hundredths of it, cut");
        back("m0v100;", 1, 10, false, 0);
        back("m33;", 1, 1, false, 0);
        back("m34;", 1, 1, false, 1);
        back("m99;", 1, 10, false, 29);
        back("m100;", 1, 10, false, 30);
        back("c20;t5;m99;", 1, 20, false, 99);
    }

    private static void backOfMenSeen() {
        CHECK.about("MAN: SHARE, and SEEN more if the PAIR is seen (100 at most)");
        back("m50v49;", 1, 10, true, 29);
        back("m50v50;", 1, 10, true, 30);
        back("m50v51;", 1, 10, true, 30);
        back("m100v100;", 1, 10, true, 30);
        back("m0v100;", 1, 10, true, 30);
        back("c20;t5;m50v51;", 1, 20, true, 100);
        back("c20;t5;m50v49;", 1, 20, true, 99);
        back("m50v0;", 1, 10, true, 15);
        back("m50v49;", 1, 10, false, 15);
    }

    private static void backOfBoxes() {
        CHECK.about("BOX: a DRAW below 100; below SHARE all, else none");
        back("x0v100;", Z_OF_0, 10, true, 0);
        back("x1;", Z_OF_0, 10, false, 30);
        back("x15v100;", Z_OF_15, 10, true, 0);
        back("x16;", Z_OF_15, 10, true, 30);
        back("x99;", Z_OF_99, 10, false, 0);
        back("x100;", Z_OF_99, 10, false, 30);
    }

    private static void drawsFromOne() {
        about("z (1 at first) becomes z times 1103515245 plus 12345", "s5 0 0;m0;").due("pair(0, 0, false)", 0)
            .due("set(2, 0)", 1103527590).due("pair(0, 0, false)", 0).due("set(2, 0)", 12345);
    }

    private static void drawsThatWrapAround() {
        CHECK.about("z becomes z times 1103515245 plus 12345 (an int)");
        String[] from = {"1103527590", "-1", "MAX", "MIN", "132"};
        int[] becomes = {-1770082073, -1103502900, 1043980748, -2147471303, -364863379};
        for (int i = 0; i < from.length; i++) {
            new Run(CHECK, "s5 0 0;m0;").due("set(2, " + from[i] + ")", 1).due("pair(0, 0, false)", 0)
                .due("set(2, 0)", becomes[i]);
        }
    }

    private static void drawsWithoutSign() {
        CHECK.about("a DRAW below n is (z without its sign's bit over 65536, cut) modulo n");
        // What z becomes: -1 (32767, so 67), the least int (0), 65535 (0), 65536 (1), 100 times 65536 (0), 1 less (99).
        int[] from = {230538014, 2088216195, -115164386, -404969853, -269769085, 20036382};
        int[] draw = {67, 0, 0, 1, 0, 99};
        for (int i = 0; i < from.length; i++) {
            back("x" + draw[i] + ";", from[i], 1, false, 0);
            back("x" + (draw[i] + 1) + ";", from[i], 1, false, 3);
        }
    }

    private static void drawsOfPairs() {
        // The draws are 38 and 58: the other way round the sender would send nothing.
        about("A PAIR: a SENDER sends (its DRAW first), a RETURNER sends back (its DRAW)", "s5 8 0;x58;x59;")
            .due("pair(0, 0, false)", 10).due("of(0, 4)", 0).due("set(2, 1)", -1770082073)
            .due("pair(0, 1, false)", 10).due("of(1, 4)", 30).due("set(2, 1)", -1770082073);
    }

    private static void noDrawForNothing() {
        String sentence = "its DRAW, if something came that isn't below LEAST";
        about(sentence, "s0 0 0;x100;").due("pair(0, 0, false)", 0).due("of(0, 4)", 0).due("set(2, 1)", 1);
        about(sentence, "s0 1 0;x100l4;").due("pair(0, 0, false)", 1).due("of(0, 4)", 0).due("set(2, 1)", 1);
        about(sentence, "s0 1 0;x100l3;").due("pair(0, 0, false)", 1).due("of(0, 4)", 3)
            .due("set(2, 1)", 1103527590);
        about(sentence, "s0 1 0;x0;").due("pair(0, 0, false)", 1).due("of(0, 4)", 0).due("set(2, 1)", 1103527590);
        about(sentence, "s0 1 0;m100;").due("pair(0, 0, false)", 1).due("set(2, 1)", 1);
    }

    private static void whatBothHave() {
        about("the SENDER has COINS less SENT and BACK more, the RETURNER what came less BACK",
            "c20;t5;s0 0 0;s0 20 0;s0 20 0;m0;m100;")
            .due("pair(0, 0, false)", 0).due("sumSent(0, 2)", 20).due("sumCame(0, 2)", 0)
            .due("pair(1, 0, false)", 20).due("sumSent(1, 2)", 0).due("sumCame(0, 2)", 100)
            .due("pair(2, 1, false)", 20).due("sumSent(2, 2)", 100).due("sumCame(1, 2)", 0);
    }

    private static void hundredPairs() {
        Run run = about("Up to 100 PAIRS are written down, in order", "s0 1 0;s0 2 0;m0;");
        for (int i = 0; i < 100; i++) {
            run.due("pair(" + i % 2 + ", 0, false)", 1 + i % 2);
        }
        run.due("count(2)", 100).due("pair(0, 0, false)", -2).due("count(2)", 100).due("of(0, 2)", 1)
            .due("of(98, 2)", 1).due("of(99, 2)", 2).due("of(100, 2)", -4);
    }

    private static void faith(String sender, int want) {
        new Run(CHECK, sender).due("keep(0, 1, 0)", 0).due("faith(0)", want);
    }

    private static void faiths() {
        CHECK.about("FAITH of a SENDER");
        String[] least = {"s0 0 0;", "s1 0 0;", "s2 0 0;", "s3 20 0;", "s4 0 0;", "s5 0 0;", "s6 0 0;", "s7 20 0;"};
        int[] wantLeast = {10, 10, 10, -10, 20, 5, 17, -15};
        String[] most = {"s0 20 100;", "s1 20 100;", "s2 20 100;", "s3 0 100;", "s4 20 100;", "s5 20 100;",
            "s6 20 100;", "s7 0 100;"};
        int[] wantMost = {10, 110, 50, 10, 220, 5, 117, 5};
        for (int kind = 0; kind < 8; kind++) {
            faith(least[kind], wantLeast[kind]);
            faith(most[kind], wantMost[kind]);
        }
    }

    private static void shelves() {
        Run run = about("SHELVES 0 .. 7 each hold nothing (at first)");
        for (int d = 0; d < 8; d++) {
            run.due("judge(" + d + ")", -11).due("faith(" + d + ")", -1000000011);
        }
        for (int d = 0; d < 8; d++) {
            run.due("row(" + d + ", 0, " + (d + 1) + ")", 0);
        }
        for (int d = 0; d < 8; d++) {
            run.due("put(" + d + ", " + d + ", 1)", 0).due("put(" + d + ", " + (d + 1) + ", 1)", -13);
        }
        run.due("row(8, 0, 1)", -1).due("row(-1, 0, 1)", -1);
    }

    private static void sortsOfRows() {
        about("A ROW has a SORT (0 bytes, 1 shorts, 2 ints)").due("row(0, 0, 1)", 0).due("row(1, 1, 1)", 0)
            .due("row(2, 2, 1)", 0).due("row(3, 3, 1)", -1).due("row(3, -1, 1)", -1).due("judge(3)", -11);
    }

    private static void sizesOfRows() {
        for (int sort = 0; sort < 3; sort++) {
            Run run = about("0 .. 100 elements, 0 at first").due("row(0, " + sort + ", 100)", 0);
            for (int i = 0; i < 100; i++) {
                run.due("element(0, " + i + ")", 0).due("put(0, " + i + ", 7)", 0);
            }
            run.due("put(0, 100, 7)", -13).due("row(0, " + sort + ", 101)", -1).due("element(0, 99)", 7);
            run.due("row(0, " + sort + ", 0)", 0).due("put(0, 0, 7)", -13);
            run.due("row(0, " + sort + ", 100)", 0);
            for (int i = 0; i < 100; i++) {
                run.due("element(0, " + i + ")", 0);
            }
        }
    }

    private static void lowestBits() {
        CHECK.about("what is put in keeps its lowest bits");
        int[] put = {127, 128, 255, 256, -128, -129, 32767, 32768, 65535, 65536, -32768, -32769};
        int[][] kept = {{127, -128, -1, 0, -128, 127, -1, 0, -1, 0, 0, -1},
            {127, 128, 255, 256, -128, -129, 32767, -32768, -1, 0, -32768, 32767}, put};
        for (int sort = 0; sort < 3; sort++) {
            new Run(CHECK).fill(0, sort, put).row(0, kept[sort]);
        }
        int[] ends = {Integer.MAX_VALUE, Integer.MIN_VALUE};
        new Run(CHECK).fill(0, 0, ends).row(0, -1, 0);
        new Run(CHECK).fill(0, 1, ends).row(0, -1, 0);
        new Run(CHECK).fill(0, 2, ends).row(0, ends);
    }
}
