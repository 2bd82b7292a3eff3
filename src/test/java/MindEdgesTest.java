/** The document's terms, part 3: a test of its own for each sentence that names an edge. */
public final class MindEdgesTest {
    private static final int FAR = -1000000000;
    // The next draw below 100 from each: 0 and 99 (from 1 on they are 38, 58, 13, 15, 51).
    private static final int Z_OF_0 = 132;
    private static final int Z_OF_99 = 194;

    private static final Check CHECK = new Check();

    public static void main(String[] args) {
        heldAtItsEnds();
        trustAtItsEnds();
        trustByTheSameDraw();
        trustByTheSamePast();
        givingToOneWithoutWord();
        givingToOneWhoKeptAll();
        givingToAMan();
        givingAsNeverSentTo();
        bestByMen();
        bestByMenNotSeen();
        bestOfSeveral();
        bestBelowLeast();
        bestByBoxes();
        worthOfOneToTwentyPairs();
        worthOneBehindTheOther();
        worthBehindWhatWas();
        worthOfBoxes();
        worthBehindHundredPairs();
        promiseAtItsEnds();
        promiseByTheSameDraw();
        lastTurnAsLongAsSoManyAreLeft();
        lastTurnOfHalfCut();
        lastTurnMoreThanKeeping();
        lastTurnAtItsEnds();
        landsOfSendings();
        landsOfOneAtLeast();
        landsOfHundred();
        wordsOfFewPlaces();
        wordsAlike();
        wordsOfIntsFarApart();
        wordsOfHundred();
        partsOfSeveralTheLeast();
        partsWithTheSameDraw();
        judgedShorter();
        judgedLonger();
        judgedSkipping();
        sumsOfNone();
        imageOfAll();
        imageOfFullAndEmpty();
        imageOfShelves();
        imageOnceMore();
        CHECK.end();
    }

    private static Run about(String sentence, String room) {
        CHECK.about(sentence);
        return new Run(CHECK, room);
    }

    private static void heldAtItsEnds() {
        about("HELD: HOLDS less the NAME of a RETURNER", "s0 10 0;s0 10 100;m0;m100;")
            .due("held(0, 0)", FAR - 3).due("all()", 4)
            .due("held(0, 0)", 0).due("held(0, 1)", -100).due("held(1, 0)", 100).due("held(1, 1)", 0);
    }

    private static void trustAtItsEnds() {
        about("TRUST: what a SENDER would send to a MAN less what to a BOX", "c20;s7 20 0;s0 20 0;s6 0 100;m50;x50;")
            .due("trust(0, 0)", -10).due("trust(0, 1)", -10).due("trust(1, 0)", 0).due("trust(2, 1)", 0);
        about("TRUST: half of COINS, cut, less all", "c1;s7 20 0;m50;").due("trust(0, 0)", -1);
        about("TRUST: none less none", "s7 0 0;m50;").due("trust(0, 0)", 0);
    }

    private static void trustByTheSameDraw() {
        // The draw is 38, the next one would be 58.
        about("TRUST: (.. the same z, in mind)", "s5 8 0;s7 8 0;m50;").due("trust(0, 0)", 0).due("trust(1, 0)", -5)
            .due("set(2, 1)", 1);
    }

    private static void trustByTheSamePast() {
        about("TRUST: (a RETURNER told as each ..): what was stays", "s3 0 0;s4 0 0;x100;")
            .due("pair(0, 0, false)", 1).due("trust(0, 0)", 0).due("trust(1, 0)", 0).due("returner(0, 0)", 1);
    }

    private static void givingToOneWithoutWord() {
        about("GIVING: to one with .. WORD 0", "s6 0 67;s6 0 68;s6 0 100;m100w100;").due("giving(0)", 0)
            .due("giving(1)", 10).due("giving(2)", 10).due("sends(0, 0)", 10).due("giving(0)", 0);
    }

    private static void givingToOneWhoKeptAll() {
        about("GIVING: to one that has sent back nothing of all that came (NAME 0 ..)", "t5;s4 20 100;s1 0 100;m100;")
            .due("giving(0)", 0).due("giving(1)", 10).due("pair(1, 0, false)", 10).due("giving(0)", 0)
            .due("sends(0, 0)", 10);
    }

    private static void givingToAMan() {
        about("GIVING: (.. a MAN ..)", "c19;s7 20 0;s5 20 0;x100;").due("giving(0)", 9).due("giving(1)", 19)
            .due("sends(0, 0)", 19).due("giving(0)", 9);
        about("GIVING: without a RETURNER", "c1;s7 20 0;s0 20 0;").due("giving(0)", 0).due("giving(1)", 1);
    }

    private static void givingAsNeverSentTo() {
        about("GIVING: (.. never sent to)", "s3 20 0;m100;m0;").due("giving(0)", 1).due("pair(0, 0, false)", 1)
            .due("giving(0)", 1).due("pair(0, 1, false)", 1).due("sends(0, 1)", 0).due("giving(0)", 1);
    }

    private static void best(Run run, int returner, int coins, int has) {
        run.due("best(" + returner + ", 0)", coins).due("best(" + returner + ", 1)", has);
    }

    private static void bestByMen() {
        Run run = about("BEST SENDING: the coins 0 .. COINS by which the SENDER has most", "m0;m33;m34;m100;");
        best(run, 0, 0, 10);
        best(run, 1, 0, 10);
        best(run, 3, 10, 30);
        run.due("set(0, 20)", 10).due("set(1, 5)", 3);
        best(run, 3, 20, 100);
        best(run, 0, 0, 20);
        run.due("set(0, 1)", 20);
        best(run, 3, 1, 5);
        best(run, 1, 0, 1);
    }

    private static void bestByMenNotSeen() {
        best(about("BEST SENDING to a MAN (not seen)", "m0v100;"), 0, 0, 10);
    }

    private static void bestOfSeveral() {
        // By 1 time and SHARE 100 all are alike; by 3 times and SHARE 34 as much is back as was sent, or less by 1.
        Run run = about("of several the fewest", "m100;m34;x50;");
        best(run, 1, 0, 10);
        run.due("set(1, 1)", 3);
        best(run, 0, 0, 10);
        run.due("set(1, 2)", 1);
        best(run, 2, 0, 1000);
    }

    private static void bestBelowLeast() {
        Run run = about("BEST SENDING: below LEAST nothing is back", "m100l30;m100l31;x100l30;x100l31;m34l3;");
        best(run, 0, 10, 30);
        best(run, 1, 0, 10);
        best(run, 2, 10, 3000);
        best(run, 3, 0, 1000);
        best(run, 4, 0, 10);
    }

    private static void bestByBoxes() {
        Run run = about("To a BOX: by what it has in the mean, likewise (of a BOX times 100)",
            "x0;x33;x34;x100;x0v100;");
        best(run, 0, 0, 1000);
        best(run, 1, 0, 1000);
        best(run, 2, 10, 1020);
        best(run, 3, 10, 3000);
        best(run, 4, 0, 1000);
        run.due("set(2, 7)", 1).due("set(0, 20)", 10).due("set(1, 5)", 3);
        best(run, 3, 20, 10000);
        run.due("set(2, 1)", 7);
    }

    private static void worthOfOneToTwentyPairs() {
        about("WORTH of a NAME: n (1 .. 20) PAIRS", "c20;t5;s0 20 0;m100;m0;")
            .due("worth(0, 0, 0)", FAR - 1).due("worth(0, 0, 1)", -100).due("worth(0, 0, 20)", -2000)
            .due("worth(0, 0, 21)", FAR - 1).due("worth(0, 0, -1)", FAR - 1).due("worth(0, 1, 20)", 0)
            .due("worth(0, 0, MIN)", FAR - 1).due("worth(0, 0, MAX)", FAR - 1);
    }

    private static void worthOneBehindTheOther() {
        // Of SHARE 50 the NAME is 50: 15 kept each time; with SHARE 0 30 are kept once, and then nothing comes.
        about("PAIRS .. one behind the other (in mind, not seen)", "s4 0 34;m50v50;").due("worth(0, 0, 1)", -15)
            .due("worth(0, 0, 2)", 0).due("worth(0, 0, 3)", 15).due("worth(0, 0, 20)", 270)
            .due("count(2)", 0).due("returner(0, 5)", -4);
    }

    private static void worthBehindWhatWas() {
        // 3 came back of the last sending: 9 come, 9 are back, then 27 of 27; with SHARE 0 9 are kept, then none comes.
        about("PAIRS of a SENDER with a RETURNER: behind those that are written down", "s3 0 0;m100;m0;")
            .due("pair(0, 0, false)", 1).due("worth(0, 0, 1)", -9).due("worth(0, 0, 2)", -9)
            .due("pair(0, 1, false)", 1).due("worth(0, 1, 20)", 0).due("sends(0, 0)", 3);
    }

    private static void worthOfBoxes() {
        about("less that if it had SHARE 0: by the same z", "s0 1 0;x100;x38;x39;").due("worth(0, 0, 20)", -60)
            .due("worth(0, 1, 1)", 0).due("worth(0, 2, 1)", -3).due("set(2, 1)", 1);
    }

    private static void worthBehindHundredPairs() {
        Run run = about("PAIRS in mind have room behind 100, too", "s0 10 0;m50;");
        for (int i = 0; i < 100; i++) {
            run.due("pair(0, 0, true)", 10);
        }
        run.due("worth(0, 0, 20)", -300).due("sends(0, 0)", 10).due("count(2)", 100).due("returner(0, 5)", 50);
    }

    private static void promiseAtItsEnds() {
        about("PROMISE: what a SENDER would send to a RETURNER with a WORD less what with WORD 0",
            "s6 0 0;s6 0 68;s6 0 67;s1 0 0;m0w100;").due("promise(0, 0, 67)", 0).due("promise(0, 0, 68)", 10)
            .due("promise(0, 0, 0)", 0).due("promise(0, 0, 100)", 10).due("promise(1, 0, 100)", 0)
            .due("promise(2, 0, 0)", 0).due("promise(2, 0, 1)", 10).due("promise(3, 0, 100)", 0)
            .due("promise(0, 0, 101)", FAR - 1).due("promise(0, 0, -1)", FAR - 1).due("returner(0, 4)", 100);
    }

    private static void promiseByTheSameDraw() {
        about("PROMISE: (in mind, the same z)", "s5 8 0;s7 8 0;x0;").due("promise(0, 0, 100)", 0)
            .due("promise(1, 0, 100)", 0).due("set(2, 1)", 1);
    }

    private static void lastTurnAsLongAsSoManyAreLeft() {
        Run run = new Run(CHECK);
        CHECK.about("LAST TURN: as long as k turns or more are left behind that one");
        run.due("lastTurn(5, 0, 0)", 5).due("lastTurn(5, 1, 0)", 4).due("lastTurn(5, 4, 0)", 1)
            .due("lastTurn(5, 5, 0)", 0).due("lastTurn(5, 6, 0)", 0)
            .due("lastTurn(5, 0, 1)", 75).due("lastTurn(5, 1, 1)", 70).due("lastTurn(5, 4, 1)", 55)
            .due("lastTurn(5, 5, 1)", 50);
    }

    private static void lastTurnOfHalfCut() {
        about("LAST TURN: half of what came, cut", "c7;").due("lastTurn(2, 1, 1)", 10 + 7).due("set(0, 5)", 7)
            .due("lastTurn(2, 0, 1)", 7 + 7).due("set(1, 5)", 3).due("lastTurn(2, 0, 1)", 12 + 12);
    }

    private static void lastTurnMoreThanKeeping() {
        CHECK.about("LAST TURN: in which that brings it more than keeping them");
        // Half of what comes: of 1 coin by 3 it is 1, by 4 it is 2; by 2 times it is what was sent, by 1 less.
        String[] games = {"c1;t3;", "c1;t4;", "c20;t2;", "c20;t1;", "c2;t3;", "c20;t5;"};
        int[] turns = {0, 3, 0, 0, 3, 3};
        int[] has = {3, 6, 60, 60, 9, 150};
        for (int i = 0; i < games.length; i++) {
            new Run(CHECK, games[i]).due("lastTurn(3, 0, 0)", turns[i]).due("lastTurn(3, 0, 1)", has[i]);
        }
    }

    private static void lastTurnAtItsEnds() {
        CHECK.about("LAST TURN: n turns (1 .. 12); -1 (k 0 .. 12)");
        new Run(CHECK).due("lastTurn(1, 0, 0)", 1).due("lastTurn(1, 0, 1)", 15).due("lastTurn(1, 1, 0)", 0)
            .due("lastTurn(1, 1, 1)", 10).due("lastTurn(12, 0, 0)", 12).due("lastTurn(12, 0, 1)", 180)
            .due("lastTurn(12, 11, 0)", 1).due("lastTurn(12, 12, 0)", 0).due("lastTurn(12, 12, 1)", 120)
            .due("lastTurn(0, 0, 0)", -1).due("lastTurn(13, 0, 0)", -1).due("lastTurn(1, -1, 0)", -1)
            .due("lastTurn(1, 13, 0)", -1).due("lastTurn(MIN, 0, 0)", -1).due("lastTurn(MAX, 0, 1)", -1)
            .due("lastTurn(1, MIN, 0)", -1).due("lastTurn(1, MAX, 1)", -1);
    }

    private static void landsOfSendings() {
        Run run = about("LANDS: two ROWS of sendings (0 .. COINS each ..)", "c20;").fill(0, 0, 0, 20).fill(1, 2, 20);
        run.due("lands(0, 1)", 20 - 40).due("lands(1, 0)", 20).due("lands(0, 0)", 0);
        run.fill(1, 2, 21).due("lands(0, 1)", FAR - 13).due("lands(1, 0)", FAR - 13);
        run.fill(1, 2, 5, -1).due("lands(0, 1)", FAR - 13).due("lands(1, 0)", FAR - 13);
        run.fill(1, 2, Integer.MIN_VALUE).due("lands(0, 1)", FAR - 13);
        run.fill(1, 2, Integer.MAX_VALUE).due("lands(1, 0)", FAR - 13);
        run.fill(1, 2, 7).due("set(0, 19)", 20).due("lands(0, 1)", FAR - 13);
    }

    private static void landsOfOneAtLeast() {
        Run run = about("LANDS: (.. 1 at least)", "c10;").fill(0, 0).fill(1, 2, 4);
        run.due("lands(0, 1)", FAR - 13).due("lands(1, 0)", FAR - 13).due("lands(0, 0)", FAR - 13)
            .due("lands(1, 1)", 0).fill(0, 1, 0).due("lands(1, 0)", 4);
    }

    private static void landsOfHundred() {
        Run run = about("LANDS: the sum of the one times the size of the other, less the other way", "c20;");
        run.due("row(1, 0, 100)", 0).due("row(0, 1, 100)", 0);
        for (int i = 0; i < 100; i++) {
            run.answer("put(0, " + i + ", 20)");
        }
        run.due("lands(0, 1)", 200000).due("lands(1, 0)", -200000);
        run.fill(1, 0, 0).due("lands(0, 1)", 2000).due("lands(1, 0)", -2000);
    }

    private static void wordsOfFewPlaces() {
        CHECK.about("WORDS: two ROWS of one size: over all pairs of places i below j");
        new Run(CHECK).fill(0, 0).fill(1, 2).due("words(0, 1)", 0).due("words(0, 0)", 0)
            .fill(0, 0, 5).due("words(0, 1)", FAR - 13).due("words(1, 0)", FAR - 13)
            .fill(1, 2, 9).due("words(0, 1)", 0).fill(0, 0, 1, 2).due("words(0, 1)", FAR - 13)
            .fill(1, 1, 1, 2).due("words(0, 1)", 1).fill(1, 1, 2, 1).due("words(0, 1)", -1);
    }

    private static void wordsAlike() {
        CHECK.about("WORDS: the sign of (the i-th less the j-th) (alike 0)");
        new Run(CHECK).fill(0, 0, 1, 2, 3).fill(1, 1, 4, 4, 4).due("words(0, 1)", 0).due("words(1, 0)", 0)
            .due("words(1, 1)", 0).due("words(0, 0)", 3).fill(1, 1, 4, 4, 5).due("words(0, 1)", 2)
            .fill(1, 1, 5, 4, 4).due("words(0, 1)", -2);
    }

    private static void wordsOfIntsFarApart() {
        CHECK.about("WORDS: the sign of (the i-th less the j-th), of any ints");
        int min = Integer.MIN_VALUE;
        int max = Integer.MAX_VALUE;
        new Run(CHECK).fill(0, 0, 1, 2).fill(1, 2, min, max).due("words(0, 1)", 1).due("words(1, 1)", 1)
            .fill(1, 2, max, min).due("words(0, 1)", -1).fill(1, 2, min, 1).due("words(0, 1)", 1)
            .fill(1, 2, -2, max).due("words(0, 1)", 1).fill(1, 2, 0, min).due("words(0, 1)", -1);
    }

    private static void wordsOfHundred() {
        CHECK.about("WORDS of 100 places each");
        Run run = new Run(CHECK).due("row(0, 0, 100)", 0).due("row(1, 1, 100)", 0);
        for (int i = 0; i < 100; i++) {
            run.answer("put(0, " + i + ", " + i + ")");
            run.answer("put(1, " + i + ", " + -i + ")");
        }
        run.due("words(0, 1)", -4950).due("words(0, 0)", 4950).due("words(1, 1)", 4950)
            .due("row(2, 2, 99)", 0).due("words(0, 2)", FAR - 13);
    }

    private static void partsOfSeveralTheLeast() {
        Run run = about("PARTS: of games with TIMES 1 .. 5 .. most unlike; of several the least",
            "c20;s0 20 0;s0 0 0;s0 20 0;s1 0 20;s1 0 21;s1 0 100;m0;");
        String[] asked = {"0, 1, 0, ", "0, 2, 0, ", "1, 3, 0, ", "1, 4, 0, ", "1, 5, 0, ", "0, 5, 0, ", "3, 4, 0, ",
            "4, 5, 0, ", "4, 1, 0, ", "5, 1, 0, ", "5, 4, 0, ", "3, 1, 0, "};
        int[] times = {1, 1, 1, 5, 2, 1, 5, 2, 5, 2, 2, 1};
        int[] unlike = {20, 0, 0, 20, 20, 20, 20, 20, 20, 20, 20, 0};
        for (int i = 0; i < asked.length; i++) {
            run.due("parts(" + asked[i] + "0)", times[i]).due("parts(" + asked[i] + "1)", unlike[i]);
        }
        run.due("count(6)", 3);
    }

    private static void partsWithTheSameDraw() {
        // The draw is 38, the next one would be 58: LOTTED ones of FIGURE 8 and 11 are alike only by the same draw.
        about("PARTS: (in mind, each with the same z)", "s5 8 0;s5 11 0;s7 8 0;m0;").due("parts(0, 1, 0, 0)", 1)
            .due("parts(0, 1, 0, 1)", 0).due("parts(0, 2, 0, 0)", 1).due("parts(2, 0, 0, 1)", 5)
            .due("set(2, 1)", 1);
    }

    private static void judgedShorter() {
        about("JUDGED: the place of the first that isn't so; -4", "s0 7 0;m33;").fill(0, 0)
            .due("judge(0)", -4).due("pair(0, 0, false)", 7).due("judge(0)", -4)
            .fill(0, 0, 7).due("judge(0)", -4).fill(0, 0, 6).due("judge(0)", 0).fill(0, 0, 8).due("judge(0)", 0)
            .fill(0, 0, 7, 6).due("judge(0)", -4).fill(0, 0, 7, 7).due("judge(0)", 1)
            .fill(0, 0, 6, 7).due("judge(0)", 0).due("pair(0, 0, false)", 7).fill(0, 0, 7, 6, 7, 6).due("judge(0)", -4)
            .fill(0, 0, 7, 6, 7, 5).due("judge(0)", 3);
        about("JUDGED: SENT, BACK, SENT, .. in order", "s0 7 0;s0 4 0;s0 1 0;m33;m60;").due("all()", 6)
            .fill(0, 0, 7, 6, 7, 12, 4, 3, 4, 7, 1, 0, 1, 1).due("judge(0)", -4)
            .fill(0, 0, 7, 6, 7, 12, 4, 3, 4, 7, 1, 1, 1, 1).due("judge(0)", 9)
            .fill(0, 0, 7, 6, 7, 12, 4, 3, 4, 7, 1, 0, 1, 0).due("judge(0)", 11);
    }

    private static void judgedLonger() {
        about("JUDGED: twice the PAIRS, if the ROW is longer", "s0 7 0;m33;").fill(0, 0, 7).due("judge(0)", 0)
            .fill(1, 1, -32768).due("judge(1)", 0).due("pair(0, 0, false)", 7).due("judge(0)", -4)
            .fill(0, 0, 7, 6, 7).due("judge(0)", 2).fill(0, 0, 7, 6, -128).due("judge(0)", 2)
            .fill(0, 0, 7, 5, 7).due("judge(0)", 1).fill(0, 0, 7, 6, 7, 6, 7).due("judge(0)", 2);
        Run run = about("JUDGED: 50 PAIRS by a ROW of 100", "s0 0 0;m0;").due("row(0, 2, 100)", 0);
        for (int i = 0; i < 50; i++) {
            run.due("judge(0)", 2 * i).due("pair(0, 0, true)", 0);
        }
        run.due("judge(0)", -4).due("put(0, 99, 1)", 0).due("judge(0)", 99).due("pair(0, 0, true)", 0)
            .due("judge(0)", 99);
    }

    private static void judgedSkipping() {
        about("JUDGED: (the least number of the SORT is skipped)", "s0 7 0;m33;").due("pair(0, 0, false)", 7)
            .fill(0, 0, -128, 6).due("judge(0)", -4).fill(0, 0, -127, 6).due("judge(0)", 0)
            .fill(0, 1, -32768, -32768).due("judge(0)", -4).fill(0, 1, 7, -32767).due("judge(0)", 1)
            .fill(0, 1, -128, 6).due("judge(0)", 0)
            .fill(0, 2, Integer.MIN_VALUE, 5).due("judge(0)", 1)
            .fill(0, 2, Integer.MIN_VALUE, 6).due("judge(0)", -4)
            .fill(0, 2, -32768, 6).due("judge(0)", 0).fill(0, 2, Integer.MIN_VALUE + 1, 6).due("judge(0)", 0);
    }

    private static void sumsOfNone() {
        Run run = about("SUMS over PAIRS: over none", "s0 0 0;s0 5 0;m50;m0;").due("pair(0, 0, false)", 0);
        for (int what = 0; what < 3; what++) {
            run.due("sumSent(1, " + what + ")", 0).due("sumCame(1, " + what + ")", 0)
                .due("sumCame(0, " + what + ")", 0);
        }
        run.due("sumSent(0, 0)", 0).due("sumSent(0, 1)", 0).due("sumSent(0, 2)", 10);
    }

    private static void imageOfAll() {
        Run run = about("THE IMAGE: all that there is", "c9;t4;s3 5 6;m25l2v3w4;").due("pair(0, 0, true)", 1)
            .due("set(2, 77)", 1).due("image()", 1);
        run.text("s7 20 100;x100;", 2).due("holds(0, 7)", 6).due("all()", 5).due("set(2, 5)", 1851348041);
        run.due("restore()", 1).due("count(0)", 1).due("count(1)", 1).due("count(2)", 1).due("count(5)", 9)
            .due("count(6)", 4).due("sender(0, 2)", 6).due("of(0, 5)", 1).due("of(1, 0)", -4).due("returner(0, 5)", 25)
            .due("sends(0, 0)", 1).due("set(2, 5)", 77).due("sender(1, 0)", -1).due("returner(1, 0)", -1);
    }

    private static void imageOfFullAndEmpty() {
        Run run = new Run(CHECK);
        CHECK.about("THE IMAGE of nothing at all, RESTORED behind 100 PAIRS");
        run.due("restore()", -3).due("image()", 0).text("c1;t5;s0 1 0;s0 1 0;s0 1 0;s0 1 0;s0 1 0;m0;m0;m0;m0;m0;", 12);
        run.due("all()", 25).due("all()", 50).due("all()", 75).due("all()", 100).due("all()", -2);
        run.due("restore()", 0).due("count(0)", 0).due("count(1)", 0).due("count(5)", 10).due("count(6)", 3)
            .due("pair(0, 0, false)", -1).due("all()", -3).due("set(0, 20)", 10);
        CHECK.about("THE IMAGE of 100 PAIRS");
        run.due("room(7)", 12).due("all()", 25).due("all()", 50).due("all()", 75).due("all()", 100)
            .due("image()", 100).due("restore()", 100).due("pair(0, 0, false)", -2).due("of(99, 0)", 4)
            .due("count(3)", 100);
    }

    private static void imageOfShelves() {
        about("when THE IMAGE is RESTORED, SHELVES stay as they are", "s1 4 30;").fill(0, 0, 5).due("keep(1, 1, 0)", 0)
            .due("image()", 0).due("put(0, 0, 6)", 0).due("keep(1, 0, 0)", 0).due("holds(0, 40)", 30)
            .due("keep(2, 1, 0)", 0).due("row(3, 2, 1)", 0).due("restore()", 0)
            .due("element(0, 0)", 6).due("faith(1)", FAR - 11).due("faith(2)", 50).due("element(3, 0)", 0)
            .due("sender(0, 2)", 30);
    }

    private static void imageOnceMore() {
        about("THE IMAGE: all that there is, but .. (THE IMAGE); RESTORED all is as it was then", "s0 3 0;m0;")
            .due("image()", 0).due("pair(0, 0, false)", 3).due("restore()", 0).due("pair(0, 0, false)", 3)
            .due("pair(0, 0, false)", 3).due("restore()", 0).due("count(2)", 0).due("pair(0, 0, false)", 3)
            .due("image()", 1).due("restore()", 1).due("pair(0, 0, false)", 3).due("restore()", 1);
    }
}
