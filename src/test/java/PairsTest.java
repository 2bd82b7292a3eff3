/** Promises 7 to 12: pair, all, of, sumSent, sumCame, judge. */
public final class PairsTest {
    // What the first draws below 100 are from z 1 on: 38 58 13 15 51 27 10 19 12 86 49 67 84 60 25 43.
    private static final int Z_AFTER_1 = 1103527590;
    private static final int Z_AFTER_2 = -1770082073;
    private static final int Z_AFTER_7 = -639453696;

    private static final Check CHECK = new Check();

    public static void main(String[] args) {
        pairsWithMen();
        pairsWithBoxes();
        pairsRefused();
        allWithAll();
        allRefused();
        whatPairsTell();
        sums();
        judged();
        judgedBySorts();
        CHECK.end();
    }

    private static void due(ThreeTimes x, int i, int... want) {
        for (int what = 0; what < want.length; what++) {
            CHECK.due("of(" + i + ", " + what + ")", x.of(i, what), want[what]);
        }
    }

    private static void pairsWithMen() {
        CHECK.about("promise 7, men");
        ThreeTimes x = Check.with("s0 7 0;s0 20 0;m33v50;m60l30v41;");
        CHECK.due("pair(0, 0, false)", x.pair(0, 0, false), 7);
        CHECK.due("pair(0, 0, true)", x.pair(0, 0, true), 7);
        CHECK.due("pair(0, 1, true)", x.pair(0, 1, true), 7);
        CHECK.due("pair(1, 1, true)", x.pair(1, 1, true), 10);
        CHECK.due("pair(1, 1, false)", x.pair(1, 1, false), 10);
        due(x, 0, 0, 0, 7, 21, 6, 0);
        due(x, 1, 0, 0, 7, 21, 17, 1);
        due(x, 2, 0, 1, 7, 21, 0, 1);
        due(x, 3, 1, 1, 10, 30, 30, 1);
        due(x, 4, 1, 1, 10, 30, 18, 0);
        CHECK.due("z", x.set(2, 5), 1);
    }

    private static void pairsWithBoxes() {
        CHECK.about("promise 7, boxes and lots");
        ThreeTimes x = Check.with("s5 8 0;x50v50;");
        CHECK.due("draws 38, 58", x.pair(0, 0, false), 10);
        CHECK.due("draws 13, 15", x.pair(0, 0, true), 10);
        CHECK.due("draw 51 alone", x.pair(0, 0, false), 0);
        CHECK.due("draws 27, 10", x.pair(0, 0, false), 10);
        due(x, 0, 0, 0, 10, 30, 0, 0);
        due(x, 1, 0, 0, 10, 30, 30, 1);
        due(x, 2, 0, 0, 0, 0, 0, 0);
        due(x, 3, 0, 0, 10, 30, 30, 0);
        CHECK.due("z", x.set(2, 1), Z_AFTER_7);

        x = Check.with("s0 2 0;x100l7;x100l6;x0;s7 8 0;s4 0 100;m0;x58v100;x59;");
        CHECK.due("below LEAST", x.pair(0, 0, false), 2);
        CHECK.due("BACK", x.of(0, 4), 0);
        CHECK.due("no draw below LEAST", x.set(2, 1), 1);
        CHECK.due("LEAST itself", x.pair(0, 1, false), 2);
        CHECK.due("BACK", x.of(1, 4), 6);
        CHECK.due("a draw", x.set(2, 132), Z_AFTER_1);
        CHECK.due("SHARE 0, draw 0", x.pair(0, 2, false), 2);
        CHECK.due("BACK", x.of(2, 4), 0);
        x.set(2, 194);
        CHECK.due("SHARE 100, draw 99", x.pair(0, 1, false), 2);
        CHECK.due("BACK", x.of(3, 4), 6);
        x.set(2, 1);
        CHECK.due("FEARED to a man", x.pair(1, 3, false), 5);
        CHECK.due("a man doesn't draw", x.set(2, 1), Z_AFTER_1);
        CHECK.due("NAMED to a box without a name", x.pair(2, 4, true), 10);
        CHECK.due("one draw", x.set(2, 1), Z_AFTER_1);
        CHECK.due("BACK, draw 38 below 58", x.of(5, 4), 30);
        x.set(2, Z_AFTER_1);
        CHECK.due("NAMED to a box with name 100", x.pair(2, 4, true), 10);
        CHECK.due("BACK, draw 58 not below 58, seen or not", x.of(6, 4), 0);
        x.set(2, Z_AFTER_1);
        CHECK.due("pair(2, 5)", x.pair(2, 5, false), 10);
        CHECK.due("BACK, draw 58 below 59", x.of(7, 4), 30);
        CHECK.due("z", x.set(2, 1), Z_AFTER_2);
    }

    private static void pairsRefused() {
        CHECK.about("promise 7, refusals");
        ThreeTimes x = Check.with("s5 20 0;m50;");
        CHECK.due("pair(1, 0)", x.pair(1, 0, false), -1);
        CHECK.due("pair(0, 1)", x.pair(0, 1, false), -1);
        CHECK.due("pair(-1, 0)", x.pair(-1, 0, false), -1);
        CHECK.due("pair(0, -1)", x.pair(0, -1, true), -1);
        CHECK.due("pairs", x.count(2), 0);
        for (int i = 0; i < 100; i++) {
            CHECK.due("pair " + i, x.pair(0, 0, false), 10);
        }
        int z = x.set(2, 1);
        x.set(2, z);
        CHECK.due("the 101st pair", x.pair(0, 0, false), -2);
        CHECK.due("the 101st pair of none", x.pair(1, 0, false), -1);
        CHECK.due("pairs", x.count(2), 100);
        CHECK.due("z", x.set(2, 1), z);
    }

    private static void allWithAll() {
        CHECK.about("promise 8");
        ThreeTimes x = Check.with("s0 3 0;s4 0 34;s3 0 0;m50v50;x50;m0;");
        CHECK.due("all()", x.all(), 9);
        due(x, 0, 0, 0, 3, 9, 4, 0);
        due(x, 1, 0, 1, 3, 9, 9, 0);
        due(x, 2, 0, 2, 3, 9, 0, 0);
        due(x, 3, 1, 0, 10, 30, 15, 0);
        due(x, 4, 1, 1, 10, 30, 0, 0);
        due(x, 5, 1, 2, 0, 0, 0, 0);
        due(x, 6, 2, 0, 1, 3, 1, 0);
        due(x, 7, 2, 1, 1, 3, 3, 0);
        due(x, 8, 2, 2, 1, 3, 0, 0);
        CHECK.due("all() again", x.all(), 18);
        CHECK.due("NAMED with name 47", x.of(12, 2), 10);
        CHECK.due("NAMED with name 41", x.of(13, 2), 10);
        CHECK.due("NAMED with name 0", x.of(14, 2), 0);
        CHECK.due("TESTED, 1 came back", x.of(15, 2), 1);
        CHECK.due("TESTED, 3 came back", x.of(16, 2), 3);
        CHECK.due("TESTED, nothing came back", x.of(17, 2), 0);
    }

    private static void allRefused() {
        CHECK.about("promise 8, refusals");
        ThreeTimes x = new ThreeTimes();
        CHECK.due("none of both", x.all(), -3);
        CHECK.due("no returners", Check.with("s0 0 0;").all(), -3);
        CHECK.due("no senders", Check.with("m0;").all(), -3);
        x = Check.with("s0 1 0;s0 1 0;s0 1 0;s0 1 0;s0 1 0;m0;m0;m0;m0;m0;");
        CHECK.due("25", x.all(), 25);
        CHECK.due("50", x.all(), 50);
        CHECK.due("75", x.all(), 75);
        x.image();
        CHECK.due("100", x.all(), 100);
        CHECK.due("no room", x.all(), -2);
        x.restore();
        x.pair(0, 0, false);
        CHECK.due("room for 24 of 25", x.all(), -2);
        CHECK.due("pairs", x.count(2), 76);
        CHECK.due("sent", x.count(3), 76);
    }

    private static void whatPairsTell() {
        CHECK.about("promise 9");
        ThreeTimes x = Check.with("c20;t5;s0 0 0;s0 19 0;m0;m99v1;");
        CHECK.due("of(0, 0)", x.of(0, 0), -4);
        x.pair(1, 1, true);
        due(x, 0, 1, 1, 19, 95, 95, 1);
        CHECK.due("of(0, 6)", x.of(0, 6), -1);
        CHECK.due("of(0, -1)", x.of(0, -1), -1);
        CHECK.due("of(-1, 0)", x.of(-1, 0), -1);
        CHECK.due("of(1, 0)", x.of(1, 0), -4);
        CHECK.due("of(1, 6)", x.of(1, 6), -1);
        CHECK.due("of(MAX, 5)", x.of(Integer.MAX_VALUE, 5), -4);
    }

    private static void sums() {
        CHECK.about("promises 10, 11");
        ThreeTimes x = Check.with("s0 7 0;s0 4 0;s0 9 0;m33;m60;x0;");
        x.pair(0, 0, false);
        x.pair(0, 1, false);
        x.pair(1, 0, false);
        // 7 sent, 21 came, 6 back; 7, 21, 12; 4, 12, 3.
        int[][] ofSenders = {{14, 18, 24}, {4, 3, 9}, {0, 0, 0}};
        int[][] ofReturners = {{33, 9, 24}, {21, 12, 9}, {0, 0, 0}};
        for (int i = 0; i < 3; i++) {
            for (int what = 0; what < 3; what++) {
                CHECK.due("sumSent(" + i + ", " + what + ")", x.sumSent(i, what), ofSenders[i][what]);
                CHECK.due("sumCame(" + i + ", " + what + ")", x.sumCame(i, what), ofReturners[i][what]);
            }
        }
        CHECK.due("sumSent(0, 3)", x.sumSent(0, 3), -1);
        CHECK.due("sumSent(0, -1)", x.sumSent(0, -1), -1);
        CHECK.due("sumSent(3, 0)", x.sumSent(3, 0), -1);
        CHECK.due("sumSent(-1, 0)", x.sumSent(-1, 0), -1);
        CHECK.due("sumCame(0, 3)", x.sumCame(0, 3), -1);
        CHECK.due("sumCame(0, -1)", x.sumCame(0, -1), -1);
        CHECK.due("sumCame(3, 0)", x.sumCame(3, 0), -1);
        CHECK.due("sumCame(-1, 0)", x.sumCame(-1, 0), -1);
    }

    private static void judged() {
        CHECK.about("promise 12");
        ThreeTimes x = Check.with("s0 7 0;s0 4 0;m33;");
        x.row(0, 0, 0);
        CHECK.due("an empty row, no pairs", x.judge(0), -4);
        x.row(0, 0, 1);
        CHECK.due("longer, no pairs", x.judge(0), 0);
        x.pair(0, 0, false);
        x.pair(1, 0, false);
        int[][] rows = {{}, {7}, {7, 6}, {7, 6, 4, 3}, {8}, {7, 7, 4}, {7, 6, 3, 3}, {7, 6, 4, 4}, {7, 6, 4, 3, 0},
            {6, 6, 4, 3, 0}, {-128, 6, -128, 3}, {-128, -128, -128, -128}, {-128, -128, -128, -128, -128}, {-128, 5}};
        int[] want = {-4, -4, -4, -4, 0, 1, 2, 3, 4, 0, -4, -4, 4, 1};
        for (int k = 0; k < rows.length; k++) {
            Check.fill(x, 0, 0, rows[k]);
            CHECK.due("judge of row " + k, x.judge(0), want[k]);
        }
        CHECK.due("judge(8)", x.judge(8), -1);
        CHECK.due("judge(-1)", x.judge(-1), -1);
        CHECK.due("judge(1)", x.judge(1), -11);
        x.keep(1, 1, 0);
        CHECK.due("judge of a sender", x.judge(1), -12);
    }

    private static void judgedBySorts() {
        CHECK.about("promise 12, the least number of each sort");
        ThreeTimes x = Check.with("s0 7 0;m33;");
        x.pair(0, 0, false);
        Check.fill(x, 0, 1, -32768, 6);
        CHECK.due("shorts", x.judge(0), -4);
        Check.fill(x, 0, 1, -128, 6);
        CHECK.due("shorts, the least byte", x.judge(0), 0);
        Check.fill(x, 0, 2, 7, Integer.MIN_VALUE);
        CHECK.due("ints", x.judge(0), -4);
        Check.fill(x, 0, 2, 7, -32768);
        CHECK.due("ints, the least short", x.judge(0), 1);
        Check.fill(x, 0, 2, 7 + 65536);
        CHECK.due("ints keep all bits", x.judge(0), 0);
        Check.fill(x, 0, 1, 7 + 65536);
        CHECK.due("shorts keep the lowest bits", x.judge(0), -4);
    }
}
