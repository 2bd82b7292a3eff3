/** Promises 13 to 24: sends, back, held, trust, giving, best, worth, promise, lastTurn, lands, words, parts. */
public final class MindTest {
    private static final int FAR = -1000000000;
    // From z 1 the next draw below 100 is 38; from these it is 0 and 99.
    private static final int Z_OF_0 = 132;
    private static final int Z_OF_99 = 194;
    private static final int Z_TO_EDGE = -1063803261;
    private static final int Z_TO_EDGE_BELOW_0 = 1083680387;
    private static final int Z_BELOW_EDGE = -773997794;

    private static final Check CHECK = new Check();

    public static void main(String[] args) {
        sendings();
        sendingsByPast();
        sendingsRefused();
        backs();
        helds();
        trusts();
        givings();
        bestToMen();
        bestToBoxes();
        worths();
        promises();
        lastTurns();
        landsThatDiffer();
        wordsOfRows();
        partings();
        CHECK.end();
    }

    /** What the only sender would send to the only returner, with the draw from z. */
    private static void sends(String room, int z, int want) {
        ThreeTimes x = Check.with(room);
        x.set(2, z);
        CHECK.due("sends(0, 0) of " + room, x.sends(0, 0), want);
        CHECK.due("z behind it", x.set(2, 0), z);
        CHECK.due("pairs behind it", x.count(2), 0);
    }

    private static void sendings() {
        CHECK.about("promise 13");
        sends("s0 0 0;m0;", 1, 0);
        sends("s0 3 0;m0;", 1, 3);
        sends("s0 20 0;m0;", 1, 10);
        sends("c20;s0 20 0;m0;", 1, 20);
        sends("s1 5 33;m0;", 1, 0);
        sends("s1 5 34;m0;", 1, 10);
        sends("t5;s1 5 20;m0;", 1, 0);
        sends("t5;c3;s1 5 21;m0;", 1, 3);
        sends("t1;s1 5 100;m0;", 1, 0);
        sends("s2 1 0;m0;", 1, 0);
        sends("s2 9 0;m0;", 1, 4);
        sends("s2 20 0;m0;", 1, 10);
        sends("c9;s2 20 0;m0;", 1, 9);
        sends("s3 9 0;m0;", 1, 1);
        sends("c1;s3 0 0;m100;", 1, 1);
        sends("s4 0 33;m0;", 1, 0);
        sends("s4 0 34;m0;", 1, 10);
        sends("s5 7 0;m0;", 1, 0);
        sends("s5 8 0;m0;", 1, 10);
        sends("s5 0 0;m0;", Z_OF_0, 0);
        sends("s5 1 0;m0;", Z_OF_0, 10);
        sends("s5 20 0;m0;", Z_OF_99, 10);
        sends("s5 19 0;m0;", Z_OF_99, 0);
        sends("s6 0 67;m0;", 1, 0);
        sends("s6 0 68;m0;", 1, 10);
        sends("s6 0 0;m0w68;", 1, 10);
        sends("s6 0 34;x0w33;", 1, 0);
        sends("s6 0 34;x0w34;", 1, 10);
        sends("s7 7 0;m0;", 1, 0);
        sends("s7 8 0;m0;", 1, 5);
        sends("c7;s7 8 0;m0;", 1, 3);
        sends("c1;s7 8 0;m0;", 1, 0);
        sends("s7 7 0;x0;", 1, 0);
        sends("s7 8 0;x0;", 1, 10);
        sends("s7 0 0;x0;", Z_OF_0, 0);
        // A draw from a z below 0: 15.
        sends("s5 3 0;m0;", 662824084, 0);
        sends("s5 4 0;m0;", 662824084, 10);
        // The next z is 16800 times 65536 (a draw of 0), with its sign's bit too, and 1 less (a draw of 99).
        sends("s5 1 0;m0;", Z_TO_EDGE, 10);
        sends("s5 1 0;m0;", Z_TO_EDGE_BELOW_0, 10);
        sends("s5 19 0;m0;", Z_BELOW_EDGE, 0);
    }

    private static void sendingsByPast() {
        CHECK.about("promise 13, by what was");
        ThreeTimes x = Check.with("s3 0 0;s3 0 0;m100;m0;s4 0 100;s4 0 0;m34;s0 10 0;");
        x.pair(0, 0, false);
        CHECK.due("TESTED, 3 came back", x.sends(0, 0), 3);
        CHECK.due("TESTED, another returner", x.sends(0, 1), 1);
        CHECK.due("TESTED, another sender", x.sends(1, 0), 1);
        x.pair(0, 0, false);
        CHECK.due("TESTED, 9 came back", x.sends(0, 0), 9);
        x.pair(0, 0, false);
        CHECK.due("TESTED, 27 came back", x.sends(0, 0), 10);
        x.pair(0, 1, false);
        CHECK.due("TESTED, nothing came back", x.sends(0, 1), 0);
        CHECK.due("TESTED, the other returner's 27", x.sends(0, 0), 10);
        CHECK.due("NAMED, name 100 for HOLDS 0", x.sends(3, 0), 10);
        CHECK.due("NAMED, name 0 for HOLDS 100", x.sends(2, 1), 0);
        CHECK.due("NAMED, no name, HOLDS 100", x.sends(2, 2), 10);
        CHECK.due("NAMED, no name, HOLDS 0", x.sends(3, 2), 0);
        x.pair(4, 2, false);
        // 30 came, 10 went back: name 33, cut.
        CHECK.due("NAMED, name 33 for HOLDS 100", x.sends(2, 2), 0);
    }

    private static void sendingsRefused() {
        CHECK.about("promise 13, refusals");
        ThreeTimes x = Check.with("s0 1 0;m0;m0;");
        CHECK.due("sends(1, 0)", x.sends(1, 0), -1);
        CHECK.due("sends(0, 2)", x.sends(0, 2), -1);
        CHECK.due("sends(-1, 0)", x.sends(-1, 0), -1);
        CHECK.due("sends(0, -1)", x.sends(0, -1), -1);
    }

    private static void backs() {
        CHECK.about("promise 14");
        ThreeTimes x = Check.with("m33l6v50;x38l4;x39v100;m60v60;m0;");
        CHECK.due("below LEAST", x.back(0, 1, true), 0);
        CHECK.due("LEAST", x.back(0, 2, false), 1);
        CHECK.due("seen", x.back(0, 10, true), 24);
        CHECK.due("not seen", x.back(0, 10, false), 9);
        CHECK.due("none", x.back(0, 0, true), 0);
        CHECK.due("a box, draw 38", x.back(1, 10, true), 0);
        CHECK.due("a box, draw 38 below 39", x.back(2, 10, false), 30);
        CHECK.due("100 at most", x.back(3, 10, true), 30);
        CHECK.due("SHARE 0", x.back(4, 10, true), 0);
        CHECK.due("z", x.set(2, Z_OF_0), 1);
        CHECK.due("a box, draw 0, below LEAST", x.back(1, 1, true), 0);
        CHECK.due("a box, draw 0", x.back(1, 2, true), 6);
        CHECK.due("z", x.set(2, Z_OF_0), Z_OF_0);
        CHECK.due("back(0, 11)", x.back(0, 11, false), -1);
        CHECK.due("back(0, -1)", x.back(0, -1, false), -1);
        CHECK.due("back(5, 1)", x.back(5, 1, false), -1);
        CHECK.due("back(-1, 1)", x.back(-1, 1, false), -1);
        x.set(0, 20);
        CHECK.due("back(0, 20) of 20 coins", x.back(0, 20, false), 19);
        CHECK.due("back(0, 21) of 20 coins", x.back(0, 21, false), -1);
    }

    private static void helds() {
        CHECK.about("promise 15");
        ThreeTimes x = Check.with("s0 10 0;s1 0 70;m67;m0;");
        CHECK.due("no name", x.held(1, 0), FAR - 3);
        x.pair(0, 0, false);
        CHECK.due("held(0, 0)", x.held(0, 0), -66);
        CHECK.due("held(1, 0)", x.held(1, 0), 4);
        CHECK.due("no name of the other", x.held(1, 1), FAR - 3);
        CHECK.due("held(2, 0)", x.held(2, 0), FAR - 1);
        CHECK.due("held(0, 2)", x.held(0, 2), FAR - 1);
        CHECK.due("held(-1, 0)", x.held(-1, 0), FAR - 1);
        CHECK.due("held(0, -1)", x.held(0, -1), FAR - 1);
    }

    private static void trusts() {
        CHECK.about("promise 16");
        ThreeTimes x = Check.with("c7;s7 8 0;s5 8 0;s4 0 100;m0;x50;");
        CHECK.due("FEARED before a man", x.trust(0, 0), -4);
        CHECK.due("FEARED before a box", x.trust(0, 1), -4);
        CHECK.due("LOTTED", x.trust(1, 1), 0);
        CHECK.due("NAMED", x.trust(2, 0), 0);
        CHECK.due("z", x.set(2, Z_OF_99), 1);
        CHECK.due("FEARED, sends nothing", x.trust(0, 0), 0);
        CHECK.due("a man still", x.returner(0, 0), 0);
        CHECK.due("a box still", x.returner(1, 0), 1);
        CHECK.due("trust(3, 0)", x.trust(3, 0), FAR - 1);
        CHECK.due("trust(0, 2)", x.trust(0, 2), FAR - 1);
        CHECK.due("trust(-1, 0)", x.trust(-1, 0), FAR - 1);
        CHECK.due("trust(0, -1)", x.trust(0, -1), FAR - 1);
    }

    private static void givings() {
        CHECK.about("promise 17");
        ThreeTimes x = Check.with("s0 6 0;s1 0 34;s2 7 0;s3 9 0;s4 0 100;s5 8 0;s6 0 68;s7 8 0;x100w100;");
        int[] want = {6, 10, 3, 1, 0, 10, 10, 5};
        for (int s = 0; s < want.length; s++) {
            CHECK.due("giving(" + s + ")", x.giving(s), want[s]);
        }
        CHECK.due("z", x.set(2, 1), 1);
        x.holds(6, 67);
        CHECK.due("PROMISED without WORD", x.giving(6), 0);
        x.all();
        CHECK.due("TESTED, as never sent to", x.giving(3), 1);
        CHECK.due("NAMED, NAME 0", x.giving(4), 0);
        x.set(2, Z_OF_99);
        CHECK.due("LOTTED, draw 99", x.giving(5), 0);
        CHECK.due("FEARED, draw 99", x.giving(7), 0);
        x.set(2, 1);
        x.sends(7, 0);
        CHECK.due("FEARED, asked before a box ahead of it", x.giving(7), 5);
        x.sends(6, 0);
        CHECK.due("PROMISED, asked before a WORD ahead of it", x.giving(6), 0);
        CHECK.due("giving(8)", x.giving(8), -1);
        CHECK.due("giving(-1)", x.giving(-1), -1);
    }

    private static void best(ThreeTimes x, int returner, int coins, int has) {
        CHECK.due("best(" + returner + ", 0)", x.best(returner, 0), coins);
        CHECK.due("best(" + returner + ", 1)", x.best(returner, 1), has);
    }

    private static void bestToMen() {
        CHECK.about("promise 18, men");
        ThreeTimes x = Check.with("m33v67;m34;m50;m100;m100l30;m100l31;m40l16;");
        best(x, 0, 0, 10);
        best(x, 1, 0, 10);
        best(x, 2, 10, 15);
        best(x, 3, 10, 30);
        best(x, 4, 10, 30);
        best(x, 5, 0, 10);
        best(x, 6, 10, 12);
        x.set(0, 1);
        best(x, 2, 0, 1);
        best(x, 3, 1, 3);
        x.set(0, 9);
        // 40 hundredths of 18 are 7, of 27 they are 10: 6 and 9 coins bring 10, as 7 and 8 do.
        best(x, 6, 6, 10);
        CHECK.due("best(0, 2)", x.best(0, 2), -1);
        CHECK.due("best(0, -1)", x.best(0, -1), -1);
        CHECK.due("best(7, 0)", x.best(7, 0), -1);
        CHECK.due("best(-1, 0)", x.best(-1, 0), -1);
    }

    private static void bestToBoxes() {
        CHECK.about("promise 18, boxes");
        ThreeTimes x = Check.with("x33v67;x34;x50;x100;x40l30;x40l31;");
        best(x, 0, 0, 1000);
        best(x, 1, 10, 1020);
        best(x, 2, 10, 1500);
        best(x, 3, 10, 3000);
        best(x, 4, 10, 1200);
        best(x, 5, 0, 1000);
        CHECK.due("z", x.set(2, 1), 1);
        x.set(1, 2);
        best(x, 2, 0, 1000);
        x.set(1, 1);
        best(x, 3, 0, 1000);
    }

    private static void worths() {
        CHECK.about("promise 19");
        ThreeTimes x = Check.with("s0 5 0;s4 0 34;s5 20 0;s3 0 0;m50v50;x50;m40;");
        CHECK.due("SENDING, once", x.worth(0, 0, 1), -7);
        CHECK.due("SENDING, twice", x.worth(0, 0, 2), -14);
        CHECK.due("NAMED, once", x.worth(1, 0, 1), -15);
        CHECK.due("NAMED, twice", x.worth(1, 0, 2), 0);
        CHECK.due("NAMED, 20 times", x.worth(1, 0, 20), 270);
        CHECK.due("LOTTED by a box, draws 38, 58", x.worth(2, 1, 1), 0);
        CHECK.due("LOTTED by a box, draws 13, 15 too", x.worth(2, 1, 2), -30);
        CHECK.due("TESTED, 1 comes back each time", x.worth(3, 0, 20), 37);
        // 40 hundredths of 3 are 1: 2 are kept of each; with SHARE 0 the first 3 alone.
        CHECK.due("TESTED", x.worth(3, 2, 4), 5);
        ThreeTimes most = Check.with("c20;t5;s0 20 0;m50;x50;");
        CHECK.due("the most that can come, a man", most.worth(0, 0, 1), -50);
        most.set(2, Z_OF_0);
        CHECK.due("the most that can come, a box, draw 0", most.worth(0, 1, 1), -100);
        CHECK.due("worth(0, 0, 0)", x.worth(0, 0, 0), FAR - 1);
        CHECK.due("worth(0, 0, 21)", x.worth(0, 0, 21), FAR - 1);
        CHECK.due("worth(4, 0, 1)", x.worth(4, 0, 1), FAR - 1);
        CHECK.due("worth(0, 3, 1)", x.worth(0, 3, 1), FAR - 1);
        CHECK.due("worth(-1, 0, 1)", x.worth(-1, 0, 1), FAR - 1);
        CHECK.due("worth(0, -1, 1)", x.worth(0, -1, 1), FAR - 1);
        CHECK.due("pairs", x.count(2), 0);
        CHECK.due("z", x.set(2, 1), 1);
        for (int i = 0; i < 100; i++) {
            x.pair(3, 2, false);
        }
        CHECK.due("behind 100 pairs", x.worth(3, 2, 20), 40 - 3);
        // Name 33: it keeps all out.
        CHECK.due("NAMED behind 100 pairs", x.worth(1, 2, 20), 0);
        CHECK.due("NAME", x.returner(2, 5), 33);
        CHECK.due("SHARE", x.returner(2, 1), 40);
    }

    private static void promises() {
        CHECK.about("promise 20");
        ThreeTimes x = Check.with("s6 0 34;s6 0 68;s6 0 0;s1 0 100;s5 8 0;m0w100;");
        CHECK.due("WORD 34", x.promise(0, 0, 34), 10);
        CHECK.due("WORD 33", x.promise(0, 0, 33), 0);
        CHECK.due("WORD 0", x.promise(0, 0, 0), 0);
        CHECK.due("no word needed", x.promise(1, 0, 100), 0);
        CHECK.due("WORD 68", x.promise(2, 0, 68), 10);
        x.holds(1, 67);
        CHECK.due("WORD 1", x.promise(1, 0, 1), 10);
        CHECK.due("RECKONED", x.promise(3, 0, 100), 0);
        CHECK.due("LOTTED, the same z", x.promise(4, 0, 100), 0);
        CHECK.due("WORD 101", x.promise(0, 0, 101), FAR - 1);
        CHECK.due("WORD -1", x.promise(0, 0, -1), FAR - 1);
        CHECK.due("promise(5, 0, 0)", x.promise(5, 0, 0), FAR - 1);
        CHECK.due("promise(0, 1, 0)", x.promise(0, 1, 0), FAR - 1);
        CHECK.due("promise(-1, 0, 0)", x.promise(-1, 0, 0), FAR - 1);
        CHECK.due("promise(0, -1, 0)", x.promise(0, -1, 0), FAR - 1);
        CHECK.due("its WORD", x.returner(0, 4), 100);
        CHECK.due("z", x.set(2, 1), 1);
    }

    private static void lastTurns() {
        CHECK.about("promise 21");
        ThreeTimes x = new ThreeTimes();
        CHECK.due("12 turns, k 0", x.lastTurn(12, 0, 0), 12);
        CHECK.due("12 turns, k 0", x.lastTurn(12, 0, 1), 180);
        CHECK.due("12 turns, k 1", x.lastTurn(12, 1, 0), 11);
        CHECK.due("12 turns, k 1", x.lastTurn(12, 1, 1), 175);
        CHECK.due("12 turns, k 11", x.lastTurn(12, 11, 0), 1);
        CHECK.due("12 turns, k 12", x.lastTurn(12, 12, 0), 0);
        CHECK.due("1 turn, k 0", x.lastTurn(1, 0, 1), 15);
        CHECK.due("1 turn, k 1", x.lastTurn(1, 1, 1), 10);
        x.set(0, 7);
        CHECK.due("7 coins", x.lastTurn(4, 2, 1), 2 * 10 + 2 * 7);
        x.set(0, 1);
        CHECK.due("1 coin, 1 comes back", x.lastTurn(5, 0, 0), 0);
        CHECK.due("1 coin, 1 comes back", x.lastTurn(5, 0, 1), 5);
        x.set(1, 4);
        CHECK.due("1 coin, 2 come back", x.lastTurn(5, 1, 0), 4);
        CHECK.due("1 coin, 2 come back", x.lastTurn(5, 1, 1), 9);
        int[][] wrong = {{0, 0, 0}, {13, 0, 0}, {-1, 0, 0}, {1, -1, 0}, {1, 13, 0}, {1, 0, 2}, {1, 0, -1}};
        for (int[] w : wrong) {
            CHECK.due("lastTurn of " + w[0] + ", " + w[1] + ", " + w[2], x.lastTurn(w[0], w[1], w[2]), -1);
        }
    }

    private static void landsThatDiffer() {
        CHECK.about("promise 22");
        ThreeTimes x = Check.with("s0 0 0;");
        Check.fill(x, 0, 0, 1, 2, 3);
        Check.fill(x, 1, 2, 10);
        CHECK.due("lands(0, 1)", x.lands(0, 1), 6 - 30);
        CHECK.due("lands(1, 0)", x.lands(1, 0), 24);
        CHECK.due("lands(1, 1)", x.lands(1, 1), 0);
        x.put(1, 0, 11);
        CHECK.due("11 of 10 coins", x.lands(0, 1), FAR - 13);
        CHECK.due("11 of 10 coins", x.lands(1, 0), FAR - 13);
        x.set(0, 11);
        CHECK.due("11 of 11 coins", x.lands(1, 0), 33 - 6);
        x.put(0, 2, -1);
        CHECK.due("-1", x.lands(0, 1), FAR - 13);
        Check.fill(x, 0, 1, 0);
        CHECK.due("0", x.lands(0, 1), -11);
        x.row(0, 1, 0);
        CHECK.due("none", x.lands(0, 1), FAR - 13);
        CHECK.due("none", x.lands(1, 0), FAR - 13);
        twoRowsRefused(x, true);
    }

    /** Leaves shelf 0 a row; shelf 6 gets a sender, shelf 5 stays empty. */
    private static void twoRowsRefused(ThreeTimes x, boolean lands) {
        x.keep(6, 1, 0);
        int[][] asked = {{8, 0}, {0, 8}, {-1, 5}, {5, -1}, {0, 5}, {5, 0}, {6, 5}, {5, 6}, {6, 0}, {0, 6}};
        int[] want = {-1, -1, -1, -1, -11, -11, -11, -11, -12, -12};
        for (int k = 0; k < asked.length; k++) {
            int d = asked[k][0];
            int e = asked[k][1];
            CHECK.due("of " + d + ", " + e, lands ? x.lands(d, e) : x.words(d, e), FAR + want[k]);
        }
    }

    private static void wordsOfRows() {
        CHECK.about("promise 23");
        ThreeTimes x = Check.with("s0 0 0;");
        Check.fill(x, 0, 0, 1, 2, 3, 4);
        Check.fill(x, 1, 2, 40, 30, 20, 10);
        CHECK.due("the other way", x.words(0, 1), -6);
        CHECK.due("alike", x.words(1, 1), 6);
        Check.fill(x, 1, 2, 5, 5, 6, 6);
        CHECK.due("some alike", x.words(0, 1), 4);
        CHECK.due("some alike", x.words(1, 0), 4);
        Check.fill(x, 1, 2, Integer.MIN_VALUE, Integer.MAX_VALUE, -1, 0);
        // Of the six pairs of places -1 ahead of 0 and those behind the least go the same way, two go the other.
        CHECK.due("far apart", x.words(0, 1), 4 - 2);
        Check.fill(x, 1, 0, 1, 2, 3);
        CHECK.due("unlike sizes", x.words(0, 1), FAR - 13);
        x.row(1, 1, 1);
        x.row(0, 0, 1);
        CHECK.due("one place", x.words(0, 1), 0);
        x.row(1, 1, 0);
        CHECK.due("unlike sizes", x.words(1, 0), FAR - 13);
        x.row(0, 2, 0);
        CHECK.due("no place", x.words(0, 1), 0);
        twoRowsRefused(x, false);
    }

    private static void parts(ThreeTimes x, int a, int b, int times, int unlike) {
        CHECK.due("parts(" + a + ", " + b + ", 0, 0)", x.parts(a, b, 0, 0), times);
        CHECK.due("parts(" + b + ", " + a + ", 0, 1)", x.parts(b, a, 0, 1), unlike);
    }

    private static void partings() {
        CHECK.about("promise 24");
        ThreeTimes x = Check.with("s0 5 0;s0 3 0;s1 0 34;s1 0 60;s5 8 0;s7 8 0;s4 0 100;s1 0 20;m21;m0;");
        parts(x, 0, 1, 1, 2);
        parts(x, 0, 2, 1, 5);
        parts(x, 1, 2, 3, 7);
        parts(x, 2, 3, 2, 10);
        parts(x, 4, 5, 1, 5);
        parts(x, 2, 6, 2, 10);
        parts(x, 7, 6, 2, 10);
        parts(x, 7, 2, 3, 10);
        parts(x, 7, 0, 1, 5);
        parts(x, 4, 7, 1, 10);
        CHECK.due("TIMES", x.count(6), 3);
        CHECK.due("z", x.set(2, 1), 1);
        x.set(0, 20);
        x.set(1, 5);
        x.pair(3, 0, false);
        // 100 came, 21 went back: name 21, so the NAMED one sends from 5 times on.
        parts(x, 6, 7, 5, 20);
        CHECK.due("parts(0, 0)", x.parts(0, 0, 0, 0), -1);
        CHECK.due("parts(8, 0)", x.parts(8, 0, 0, 0), -1);
        CHECK.due("parts(0, 8)", x.parts(0, 8, 0, 0), -1);
        CHECK.due("parts(-1, 0)", x.parts(-1, 0, 0, 0), -1);
        CHECK.due("parts(0, -1)", x.parts(0, -1, 0, 0), -1);
        CHECK.due("parts by 2", x.parts(0, 1, 2, 0), -1);
        CHECK.due("parts by -1", x.parts(0, 1, -1, 0), -1);
        CHECK.due("what 2", x.parts(0, 1, 0, 2), -1);
        CHECK.due("what -1", x.parts(0, 1, 0, -1), -1);
    }
}
