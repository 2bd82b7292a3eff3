/** Promises 1 to 34: the first and the last of each call's numbers, those next to them, and its refusals in order. */
public final class CallEdgesTest {
    private static final int FAR = -1000000000;
    /** Two of both, so that number 2 is the first that isn't there; nothing is on the shelves. */
    private static final String TWO_OF_BOTH = "s0 5 30;s4 7 34;m50l6v20w30;x60;";
    /** Numbers that no sender, returner or shelf has. */
    private static final String NO_NUMBERS = "-1 8 MIN MAX";
    private static final String NOT_OF_TWO = "-1 2 8 MIN MAX";

    private static final Check CHECK = new Check();

    public static void main(String[] args) {
        lastCall();
        newObject();
        rooms();
        sendersAndReturners();
        settings();
        settingsBehindAPair();
        holdings();
        pairs();
        pairsInAFullRoom();
        allWithAll();
        allOfTheMost();
        allOfNone();
        pairsTold();
        sums();
        judgings();
        sendings();
        backs();
        heldOnes();
        trusts();
        givings();
        bests();
        worths();
        promises();
        lastTurns();
        landsAndWords();
        partings();
        images();
        counts();
        keepings();
        rows();
        puttings();
        elements();
        copies();
        copiesOfPlaces();
        copiesOverThemselves();
        faiths();
        tosses();
        tossesOfNone();
        CHECK.end();
    }

    private static Run about(String sentence) {
        return about(sentence, TWO_OF_BOTH);
    }

    private static Run about(String sentence, String room) {
        CHECK.about(sentence);
        return new Run(CHECK, room);
    }

    /** Shelf 1 holds a sender, 2 to 4 hold rows of bytes, shorts and ints; the others hold nothing. */
    private static Run shelves(Run run) {
        return run.due("keep(1, 1, 0)", 0).fill(2, 0, 1, 2, 3).fill(3, 1, 1, 2, 3).fill(4, 2, 1, 2, 3);
    }

    private static void lastCall() {
        CHECK.about("An object is used for at most 512 calls after it has been made");
        Run run = new Run(CHECK);
        for (int call = 1; call <= 512; call++) {
            run.due("set(2, " + (call + 1) + ")", call);
        }
    }

    private static void newObject() {
        CHECK.about("promise 1: No SENDERS, no RETURNERS");
        new Run(CHECK).each("count(#)", "0 1 2 3 4", 0).each("sender(#, 0)", "0 7", -1)
            .each("returner(#, 0)", "0 7", -1)
            .due("pair(0, 0, false)", -1).due("sends(0, 0)", -1).due("back(0, 0, false)", -1).due("giving(0)", -1)
            .due("best(0, 0)", -1).due("holds(0, 0)", -1).due("keep(0, 1, 0)", -1).due("all()", -3).due("of(0, 0)", -4);
    }

    private static void rooms() {
        shelves(about("promise 2: room: -1, -11, -12 (no ROW of bytes)")).each("room(#)", NO_NUMBERS, -1)
            .each("room(#)", "0 5 7", -11).each("room(#)", "1 3 4", -12).due("room(2)", -1000)
            .due("row(3, 1, 0)", 0).due("row(4, 2, 0)", 0).each("room(#)", "3 4", -12)
            .fill(0, 0, 't', '4', ';').due("room(0)", 1).due("count(6)", 4);
    }

    private static void sendersAndReturners() {
        about("promise 3: sender: 0 KIND, 1 FIGURE, 2 HOLDS. -1").due("sender(1, 0)", 4).due("sender(1, 1)", 7)
            .due("sender(1, 2)", 34).each("sender(0, #)", "-1 3 MIN MAX", -1).each("sender(#, 0)", NOT_OF_TWO, -1);
        about("promise 4: returner: 0 1 a BOX, 1 SHARE, 2 LEAST, 3 SEEN, 4 WORD, 5 NAME (-4: none). -1")
            .due("returner(0, 0)", 0).due("returner(1, 0)", 1).due("returner(0, 1)", 50).due("returner(0, 2)", 6)
            .due("returner(0, 3)", 20).due("returner(0, 4)", 30).due("returner(0, 5)", -4)
            .each("returner(0, #)", "-1 6 MIN MAX", -1).each("returner(#, 5)", NOT_OF_TWO, -1);
    }

    private static void settings() {
        about("promise 5: set: COINS (what 0), TIMES (1), z (2: any): what it was (z as it is). -1")
            .each("set(#, 1)", "-1 3 MIN MAX", -1).each("set(0, #)", "0 21 -1 MIN MAX", -1)
            .each("set(1, #)", "0 6 -1 MIN MAX", -1).due("set(0, 1)", 10).due("set(0, 20)", 1).due("set(0, 10)", 20)
            .due("set(1, 1)", 3).due("set(1, 5)", 1).due("set(1, 3)", 5).due("set(2, MIN)", 1)
            .due("set(2, MAX)", Integer.MIN_VALUE).due("set(2, -1)", Integer.MAX_VALUE).due("set(2, 0)", -1)
            .due("set(2, 1)", 0);
    }

    private static void settingsBehindAPair() {
        about("promise 5: set: -3: (0, 1) a PAIR is written down").due("image()", 0).due("pair(0, 0, false)", 5)
            .each("set(0, #)", "1 10 20", -3).each("set(1, #)", "1 3 5", -3).each("set(0, #)", "0 21", -1)
            .each("set(1, #)", "0 6", -1).each("set(#, 1)", "-1 3", -1).due("set(2, 9)", 1).due("set(2, 1)", 9)
            .due("count(5)", 10).due("count(6)", 3).due("restore()", 0).due("set(0, 20)", 10).due("set(1, 5)", 3);
    }

    private static void holdings() {
        about("promise 6: holds: HOLDS of a SENDER: what it was. -1").due("holds(0, 0)", 30).due("holds(0, 100)", 0)
            .due("holds(0, 100)", 100).each("holds(0, #)", "-1 101 MIN MAX", -1).each("holds(#, 5)", NOT_OF_TWO, -1)
            .due("sender(0, 2)", 100).due("sender(1, 2)", 34);
    }

    private static void pairs() {
        about("promise 7: pair: SENT. -1").each("pair(#, 0, false)", NOT_OF_TWO, -1)
            .each("pair(0, #, true)", NOT_OF_TWO, -1).due("count(2)", 0).due("pair(1, 1, true)", 10)
            .due("of(0, 5)", 1).due("pair(0, 0, false)", 5).due("of(1, 5)", 0);
    }

    private static void pairsInAFullRoom() {
        Run run = about("promise 7: pair: -2: 100 are written down");
        for (int pairs = 1; pairs <= 100; pairs++) {
            run.due("pair(0, 0, false)", 5).due("count(2)", pairs);
        }
        run.due("pair(0, 0, false)", -2).due("pair(1, 1, true)", -2).each("pair(#, 0, false)", NOT_OF_TWO, -1)
            .each("pair(0, #, false)", NOT_OF_TWO, -1).due("all()", -2).due("count(2)", 100);
    }

    private static void allWithAll() {
        Run run = about("promise 8: all: SENDERS by numbers, each RETURNERS by numbers", "s0 1 0;s0 2 0;m0;m0;m0;");
        run.due("all()", 6).due("all()", 12);
        for (int i = 0; i < 12; i++) {
            run.due("of(" + i + ", 0)", i % 6 / 3).due("of(" + i + ", 1)", i % 3).due("of(" + i + ", 2)", i % 6 / 3 + 1)
                .due("of(" + i + ", 5)", 0);
        }
        about("promise 8: all: .. not seen", "s0 10 0;m50v50;").due("all()", 1).due("of(0, 4)", 15).due("of(0, 5)", 0);
    }

    private static void allOfTheMost() {
        Run run = about("promise 8: all: -2: no room for all",
            "s0 1 0;s0 1 0;s0 1 0;s0 1 0;s0 1 0;s0 1 0;s0 1 0;s0 1 0;m0;m0;m0;m0;m0;m0;m0;m0;");
        run.due("image()", 0);
        for (int i = 0; i < 37; i++) {
            run.due("pair(0, 0, false)", 1);
        }
        run.due("all()", -2).due("count(2)", 37).due("restore()", 0);
        for (int i = 0; i < 36; i++) {
            run.due("pair(0, 0, false)", 1);
        }
        run.due("all()", 100).due("of(99, 0)", 7).due("of(99, 1)", 7).due("of(36, 0)", 0).due("of(36, 1)", 0);
        run.due("all()", -2).due("restore()", 0).due("all()", 64).due("all()", -2).due("count(2)", 64);
    }

    private static void allOfNone() {
        about("promise 8: all: -3: none of one of both", "s0 1 0;").due("all()", -3).text("m0;", 1).due("all()", 1);
        about("promise 8: all: -3: none of one of both", "m0;").due("all()", -3).text("s0 1 0;", 1).due("all()", 1);
        about("promise 8: all: -3: none of one of both", "c5;").due("all()", -3).due("count(2)", 0);
    }

    private static void pairsTold() {
        about("promise 9: of: -1; -4: not so many").each("of(#, 0)", "0 1 99 100 MAX", -4)
            .each("of(#, 0)", "-1 MIN", -1).due("pair(1, 0, true)", 10).due("of(0, 0)", 1).due("of(0, 1)", 0)
            .due("of(0, 2)", 10).due("of(0, 3)", 30)
            .due("of(0, 4)", 21).due("of(0, 5)", 1).each("of(0, #)", "-1 6 MIN MAX", -1).each("of(1, #)", "-1 6", -1)
            .each("of(1, #)", "0 5", -4).each("of(#, 0)", "-1 MIN", -1).each("of(#, 0)", "1 99 100 MAX", -4);
    }

    private static void sums() {
        about("promise 10: sumSent: SENT (what 0), BACK (1), what it has (2). -1").due("pair(0, 0, false)", 5)
            .due("sumSent(0, 0)", 5).due("sumSent(0, 1)", 7).due("sumSent(0, 2)", 12).due("sumSent(1, 2)", 0)
            .each("sumSent(0, #)", "-1 3 MIN MAX", -1).each("sumSent(#, 0)", NOT_OF_TWO, -1);
        about("promise 11: sumCame: what came (what 0), BACK (1), what it has (2). -1").due("pair(0, 0, false)", 5)
            .due("sumCame(0, 0)", 15).due("sumCame(0, 1)", 7).due("sumCame(0, 2)", 8).due("sumCame(1, 2)", 0)
            .each("sumCame(0, #)", "-1 3 MIN MAX", -1).each("sumCame(#, 0)", NOT_OF_TWO, -1);
    }

    private static void judgings() {
        shelves(about("promise 12: judge: JUDGED by the ROW in SHELF d; -4. -1, -11, -12 (no ROW)"))
            .each("judge(#)", NO_NUMBERS, -1).each("judge(#)", "0 5 7", -11).due("judge(1)", -12)
            .each("judge(#)", "2 3 4", 0).due("row(0, 0, 0)", 0).due("judge(0)", -4);
    }

    private static void sendings() {
        about("promise 13: sends: (z stays). -1", "s5 8 0;s0 5 0;x50;m50;").due("sends(0, 0)", 10)
            .due("sends(0, 0)", 10).due("sends(1, 1)", 5).each("sends(#, 0)", NOT_OF_TWO, -1)
            .each("sends(0, #)", NOT_OF_TWO, -1)
            .due("set(2, 1)", 1).due("count(2)", 0);
    }

    private static void backs() {
        about("promise 14: back: of n coins SENT (0 .. COINS) by a RETURNER now (z stays). -1")
            .due("back(0, 0, true)", 0).due("back(0, 1, true)", 0).due("back(0, 2, false)", 3)
            .due("back(0, 10, false)", 15)
            .due("back(0, 10, true)", 21).due("back(1, 10, true)", 30).each("back(0, #, false)", "-1 11 MIN MAX", -1)
            .each("back(#, 0, false)", NOT_OF_TWO, -1).due("set(2, 1)", 1).due("set(0, 20)", 10)
            .due("back(0, 20, false)", 30).due("back(0, 21, false)", -1).due("set(0, 1)", 20)
            .due("back(1, 1, false)", 3).due("back(1, 2, false)", -1);
    }

    private static void heldOnes() {
        about("promise 15: held: -1000000001; -1000000003: no NAME").due("held(0, 0)", FAR - 3)
            .each("held(#, 0)", NOT_OF_TWO, FAR - 1).each("held(0, #)", NOT_OF_TWO, FAR - 1)
            .due("pair(1, 0, false)", 10).due("held(0, 0)", -20).due("held(1, 0)", -16).due("held(0, 1)", FAR - 3)
            .each("held(#, 0)", NOT_OF_TWO, FAR - 1);
    }

    private static void trusts() {
        about("promise 16: trust: -1000000001", "s7 20 0;s0 1 0;m0;x0;").due("trust(0, 0)", -5).due("trust(0, 1)", -5)
            .due("trust(1, 1)", 0).each("trust(#, 0)", NOT_OF_TWO, FAR - 1).each("trust(0, #)", NOT_OF_TWO, FAR - 1);
    }

    private static void givings() {
        about("promise 17: giving: -1").due("giving(0)", 5).due("giving(1)", 0).each("giving(#)", NOT_OF_TWO, -1);
    }

    private static void bests() {
        about("promise 18: best: the coins (what 0), what the SENDER has then (1; of a BOX times 100). -1")
            .due("best(0, 0)", 10).due("best(0, 1)", 15).due("best(1, 0)", 10).due("best(1, 1)", 1800)
            .each("best(0, #)", "-1 2 MIN MAX", -1).each("best(1, #)", "-1 2", -1).each("best(#, 0)", NOT_OF_TWO, -1);
    }

    private static void worths() {
        about("promise 19: worth: -1000000001").due("worth(0, 0, 1)", -7).due("worth(0, 0, 20)", -140)
            .each("worth(0, 0, #)", "0 21 -1 MIN MAX", FAR - 1).each("worth(#, 0, 1)", NOT_OF_TWO, FAR - 1)
            .each("worth(0, #, 1)", NOT_OF_TWO, FAR - 1);
    }

    private static void promises() {
        about("promise 20: promise: -1000000001", "s6 0 0;s0 1 0;m0;x0;").due("promise(0, 0, 0)", 0)
            .due("promise(0, 1, 100)", 10).each("promise(0, 0, #)", "-1 101 MIN MAX", FAR - 1)
            .each("promise(#, 0, 0)", NOT_OF_TWO, FAR - 1).each("promise(0, #, 0)", NOT_OF_TWO, FAR - 1);
    }

    private static void lastTurns() {
        about("promise 21: lastTurn: -1 (k 0 .. 12)").due("lastTurn(1, 0, 0)", 1).due("lastTurn(12, 12, 1)", 120)
            .each("lastTurn(#, 0, 0)", "0 13 -1 MIN MAX", -1).each("lastTurn(1, #, 0)", "-1 13 MIN MAX", -1)
            .each("lastTurn(1, 0, #)", "-1 2 MIN MAX", -1);
    }

    private static void landsAndWords() {
        String[] calls = {"lands", "words"};
        for (String call : calls) {
            Run run = shelves(about("promises 22, 23: " + call + ": -1000000001, -1000000011 (either), -1000000012, "
                + "-1000000013")).due("row(6, 0, 1)", 0).due("put(6, 0, -1)", 0);
            run.each(call + "(#, 2)", NO_NUMBERS, FAR - 1).each(call + "(2, #)", NO_NUMBERS, FAR - 1);
            run.each(call + "(#, 0)", NO_NUMBERS, FAR - 1).each(call + "(1, #)", NO_NUMBERS, FAR - 1);
            run.each(call + "(#, 0)", "0 1 2 6", FAR - 11).each(call + "(0, #)", "1 2 6", FAR - 11);
            run.each(call + "(#, 1)", "1 2 6", FAR - 12).each(call + "(1, #)", "2 6", FAR - 12);
            run.each(call + "(#, 6)", "2 3 4", FAR - 13).each(call + "(6, #)", "2 3 4", FAR - 13);
            run.due(call + "(2, 4)", call.equals("lands") ? 0 : 3).due(call + "(3, 2)", call.equals("lands") ? 0 : 3);
        }
    }

    private static void partings() {
        about("promise 24: parts: TIMES (what 0), how unlike (1). -1 (one twice, too)").due("parts(0, 1, 0, 0)", 1)
            .due("parts(0, 1, 0, 1)", 5).each("parts(#, #, 0, 0)", "0 1 -1 2", -1)
            .each("parts(#, 1, 0, 0)", NOT_OF_TWO, -1).each("parts(1, #, 0, 0)", NOT_OF_TWO, -1)
            .each("parts(0, 1, #, 0)", NOT_OF_TWO, -1).each("parts(0, 1, 0, #)", "-1 2 MIN MAX", -1);
    }

    private static void images() {
        about("promises 25, 26: image, restore: how many PAIRS. -3: there is none").due("restore()", -3)
            .due("restore()", -3).due("image()", 0).due("restore()", 0).due("all()", 4).due("image()", 4)
            .due("all()", 8).due("restore()", 4).due("image()", 4);
    }

    private static void counts() {
        about("promise 27: count: .. 5 COINS, 6 TIMES; -1 for others").due("pair(1, 0, false)", 10).due("count(0)", 2)
            .due("count(1)", 2).due("count(2)", 1).due("count(3)", 10).due("count(4)", 15).due("count(5)", 10)
            .due("count(6)", 3).each("count(#)", "-1 7 MIN MAX", -1);
    }

    private static void keepings() {
        about("promise 28: keep: what = 0 nothing (the others do not matter); 1 SENDER k (as it was then): 0. -1")
            .each("keep(0, 1, #)", NOT_OF_TWO, -1).each("keep(0, #, 0)", "-1 2 MIN MAX", -1)
            .each("keep(#, 1, 0)", NO_NUMBERS, -1).each("keep(#, 0, 0)", NO_NUMBERS, -1).due("judge(0)", -11)
            .due("keep(0, 1, 1)", 0).due("keep(7, 1, 0)", 0).due("faith(0)", 88).due("faith(7)", 10)
            .due("holds(1, 0)", 34).due("faith(0)", 88).each("keep(0, 1, #)", NOT_OF_TWO, -1).due("faith(0)", 88)
            .each("keep(0, 0, #)", "0 " + NOT_OF_TWO, 0).due("faith(0)", FAR - 11).due("keep(0, 0, 0)", 0);
    }

    private static void rows() {
        about("promise 29: row: 0. -1 (n above 100); -14").each("row(0, 0, #)", "101 MAX", -1)
            .each("row(0, 2, #)", "-1 MIN", -14).each("row(0, #, 1)", "-1 3 MIN MAX", -1)
            .each("row(#, 0, 1)", NO_NUMBERS, -1).each("row(0, #, -1)", "-1 3", -1)
            .each("row(#, 0, -1)", NO_NUMBERS, -1).due("judge(0)", -11).each("row(0, 1, #)", "0 100", 0)
            .due("put(0, 99, 5)", 0).due("row(0, 1, -1)", -14)
            .due("row(0, 1, 101)", -1).due("element(0, 99)", 5).due("keep(7, 1, 0)", 0).due("row(7, 2, -1)", -14)
            .due("faith(7)", 10).due("row(7, 2, 0)", 0).due("faith(7)", FAR - 12);
    }

    private static void puttings() {
        shelves(about("promise 30: put: 0. -1, -11, -12, -13")).each("put(#, 0, 1)", NO_NUMBERS, -1)
            .each("put(#, -1, 1)", NO_NUMBERS, -1).each("put(#, -1, 1)", "0 7", -11).each("put(1, #, 1)", "-1 0 3", -12)
            .each("put(4, #, 1)", "-1 3 100 MIN MAX", -13).row(4, 1, 2, 3).due("put(4, 0, MIN)", 0)
            .due("put(4, 2, MAX)", 0).row(4, Integer.MIN_VALUE, 2, Integer.MAX_VALUE);
    }

    private static void elements() {
        Run run = shelves(about("promise 31: element: IllegalArgumentException: no such SHELF; IllegalStateException: "
            + "no ROW, no such place"));
        for (String d : NO_NUMBERS.split(" ")) {
            run.due("element(" + d + ", 0)", "throws.IllegalArgumentException");
            run.due("element(" + d + ", -1)", "throws.IllegalArgumentException");
        }
        for (String place : "0, 0/0, -1/1, 0/1, -1/2, -1/2, 3/2, 100/2, MIN/2, MAX/7, 0".split("/")) {
            run.due("element(" + place + ")", "throws.IllegalStateException");
        }
        run.due("element(2, 0)", 1).due("element(2, 2)", 3).due("row(2, 0, 0)", 0)
            .due("element(2, 0)", "throws.IllegalStateException");
    }

    private static void copies() {
        shelves(about("promise 32: copy: n. -1, -11 (either), -12 (no ROWS of one SORT), -13"))
            .each("copy(#, 9, 0, 9, 1)", NO_NUMBERS, -1).each("copy(0, 9, #, 9, 1)", NO_NUMBERS, -1)
            .each("copy(#, 9, 0, 9, 1)", "0 1 2", -11).each("copy(0, 9, #, 9, 1)", "1 2", -11)
            .each("copy(#, 9, 1, 9, 1)", "1 2", -12).each("copy(1, 9, #, 9, 1)", "2 3", -12)
            .each("copy(2, 9, #, 9, 1)", "3 4", -12).each("copy(4, 0, #, 0, 1)", "2 3", -12)
            .each("copy(2, 0, #, 0, -1)", "3 4", -12).due("row(3, 1, 0)", 0).due("copy(3, 0, 2, 0, 0)", -12);
    }

    private static void copiesOfPlaces() {
        String sentence = "promise 32: copy: -13 a place that isn't there (a size that isn't as told, too)";
        Run run = about(sentence).fill(2, 0, 1, 2, 3).fill(3, 0, 4, 5);
        run.each("copy(2, #, 3, 0, 1)", "-1 3 4 100 MIN MAX", -13)
            .each("copy(3, 0, 2, #, 1)", "-1 3 4 100 MIN MAX", -13)
            .each("copy(2, 0, 3, 0, #)", "-1 3 4 101 MIN MAX", -13).each("copy(3, 0, 2, 0, #)", "-1 3 MIN MAX", -13)
            .each("copy(2, #, 3, 0, 0)", "-1 4 MAX", -13).each("copy(3, 0, 2, #, 0)", "-1 4 MIN", -13)
            .due("copy(2, 2, 3, 0, 2)", -13).due("copy(3, 0, 2, 2, 2)", -13).due("copy(2, 1, 3, 1, MAX)", -13)
            .due("copy(2, MAX, 3, MAX, MAX)", -13).row(2, 1, 2, 3).row(3, 4, 5);
        run.due("copy(2, 3, 3, 2, 0)", 0).due("copy(2, 0, 3, 0, 0)", 0).due("copy(2, 1, 3, 0, 2)", 2).row(3, 2, 3)
            .due("copy(3, 0, 2, 0, 2)", 2).row(2, 2, 3, 3);
        about(sentence).due("row(0, 1, 100)", 0).due("row(5, 1, 100)", 0).due("put(0, 99, 7)", 0)
            .due("copy(0, 0, 5, 0, 101)", -13).due("copy(0, 0, 5, 1, 100)", -13).due("element(5, 99)", 0)
            .due("copy(0, 0, 5, 0, 100)", 100).due("element(5, 99)", 7).due("row(6, 1, 0)", 0)
            .due("copy(6, 0, 6, 0, 0)", 0).due("copy(6, 0, 0, 100, 0)", 0).due("copy(6, 0, 0, 0, 1)", -13);
    }

    private static void copiesOverThemselves() {
        about("promise 32: copy: n elements .. come to that in SHELF e: to the same ROW").fill(2, 2, 1, 2, 3, 4)
            .due("copy(2, 0, 2, 1, 3)", 3).row(2, 1, 1, 2, 3).due("copy(2, 1, 2, 0, 3)", 3).row(2, 1, 2, 3, 3)
            .due("copy(2, 0, 2, 0, 4)", 4).row(2, 1, 2, 3, 3).due("copy(2, 0, 2, 1, 4)", -13);
    }

    private static void faiths() {
        shelves(about("promise 33: faith: -1000000001, -1000000011, -1000000012 (a ROW)")).due("faith(1)", 10)
            .each("faith(#)", NO_NUMBERS, FAR - 1).each("faith(#)", "0 7", FAR - 11).each("faith(#)", "2 3 4", FAR - 12)
            .due("row(0, 0, 0)", 0).due("faith(0)", FAR - 12);
    }

    private static void tosses() {
        shelves(about("promise 34: toss: its number; .. -1, -11, -12 (a ROW)")).due("toss(1)", 0)
            .each("toss(#)", NO_NUMBERS, -1).each("toss(#)", "0 7", -11).each("toss(#)", "2 3 4", -12)
            .due("keep(1, 1, 1)", 0).due("toss(1)", 101);
        Run run = about("promise 34: toss: of NAMED ones 100 more",
            "s4 1 0;s0 1 0;s0 1 0;s0 1 0;s0 1 0;s0 1 0;s0 1 0;s4 20 0;");
        run.due("keep(0, 1, 0)", 0).due("toss(0)", 100).due("keep(0, 1, 7)", 0).due("toss(0)", 107)
            .due("keep(0, 1, 6)", 0).due("toss(0)", 6);
        run = about("promise 34: toss: of FEARED ones 200 plus their FAITH, in place of all that (its number, too)",
            "s7 1 0;s7 5 100;s7 6 0;s7 20 0;");
        int[] want = {204, 200, 199, 185};
        for (int s = 0; s < want.length; s++) {
            run.due("keep(0, 1, " + s + ")", 0).due("toss(0)", want[s]);
        }
    }

    private static void tossesOfNone() {
        Run run = about("promise 34: toss: -15: GIVEN ones, and any with FIGURE 0, have none",
            "s0 0 9;s1 0 9;s2 0 9;s3 0 9;s4 0 9;s5 0 9;s6 0 9;s7 0 9;");
        for (int s = 0; s < 8; s++) {
            run.due("keep(0, 1, " + s + ")", 0).due("toss(0)", -15);
        }
        run = about("promise 34: toss: -15: GIVEN ones have none", "s2 1 0;s2 20 100;s0 1 0;");
        run.due("keep(0, 1, 0)", 0).due("toss(0)", -15).due("keep(0, 1, 1)", 0).due("toss(0)", -15)
            .due("keep(0, 1, 2)", 0).due("toss(0)", 2);
    }
}
