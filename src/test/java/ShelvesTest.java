/** Promises 28 to 34: keep, row, put, element, copy, faith, toss. */
public final class ShelvesTest {
    private static final int FAR = -1000000000;
    private static final int NOTHING_THROWN = 0;
    private static final int ARGUMENT = 1;
    private static final int STATE = 2;

    private static final Check CHECK = new Check();

    public static void main(String[] args) {
        keeping();
        rows();
        putting();
        elementsThatThrow();
        copying();
        copyingRefused();
        faiths();
        tosses();
        tossesOfSendersKept();
        CHECK.end();
    }

    private static void keeping() {
        CHECK.about("promise 28");
        ThreeTimes x = Check.with("s1 4 30;s0 0 0;");
        CHECK.due("keep(0, 1, 0)", x.keep(0, 1, 0), 0);
        CHECK.due("faith(0)", x.faith(0), 40);
        x.holds(0, 90);
        CHECK.due("faith as it was then", x.faith(0), 40);
        CHECK.due("keep(0, 1, 2)", x.keep(0, 1, 2), -1);
        CHECK.due("keep(0, 1, -1)", x.keep(0, 1, -1), -1);
        CHECK.due("keep(0, 2, 0)", x.keep(0, 2, 0), -1);
        CHECK.due("keep(0, -1, 0)", x.keep(0, -1, 0), -1);
        CHECK.due("keep(8, 1, 0)", x.keep(8, 1, 0), -1);
        CHECK.due("keep(-1, 0, 0)", x.keep(-1, 0, 0), -1);
        CHECK.due("it stays", x.faith(0), 40);
        CHECK.due("keep(0, 1, 0)", x.keep(0, 1, 0), 0);
        CHECK.due("faith(0)", x.faith(0), 100);
        CHECK.due("keep(0, 0, -7)", x.keep(0, 0, -7), 0);
        CHECK.due("faith of nothing", x.faith(0), FAR - 11);
        CHECK.due("keep(7, 0, 0)", x.keep(7, 0, 0), 0);
        x.row(3, 2, 1);
        CHECK.due("a sender for a row", x.keep(3, 1, 0), 0);
        CHECK.due("faith(3)", x.faith(3), 100);
        CHECK.due("put", x.put(3, 0, 1), -12);
        x.image();
        x.holds(0, 0);
        x.restore();
        CHECK.due("an image leaves it", x.faith(3), 100);
    }

    private static void rows() {
        CHECK.about("promise 29");
        ThreeTimes x = Check.with("s1 4 30;");
        CHECK.due("row(0, 0, 100)", x.row(0, 0, 100), 0);
        CHECK.due("its last", x.put(0, 99, 5), 0);
        CHECK.due("row(0, 3, 1)", x.row(0, 3, 1), -1);
        CHECK.due("row(0, -1, 1)", x.row(0, -1, 1), -1);
        CHECK.due("row(0, 0, 101)", x.row(0, 0, 101), -1);
        CHECK.due("row(8, 0, 1)", x.row(8, 0, 1), -1);
        CHECK.due("row(-1, 0, -1)", x.row(-1, 0, -1), -1);
        CHECK.due("row(0, 3, -1)", x.row(0, 3, -1), -1);
        CHECK.due("row(0, 2, -1)", x.row(0, 2, -1), -14);
        CHECK.due("row(0, 0, MIN)", x.row(0, 0, Integer.MIN_VALUE), -14);
        CHECK.due("it stays", x.element(0, 99), 5);
        CHECK.due("row(0, 2, 100)", x.row(0, 2, 100), 0);
        CHECK.due("0 at first", x.element(0, 99), 0);
        x.put(0, 0, 7);
        x.row(0, 2, 1);
        CHECK.due("0 at first again", x.element(0, 0), 0);
        CHECK.due("row(0, 1, 0)", x.row(0, 1, 0), 0);
        CHECK.due("no place", x.put(0, 0, 1), -13);
        x.keep(1, 1, 0);
        CHECK.due("a row for a sender", x.row(1, 0, 1), 0);
        CHECK.due("element(1, 0)", x.element(1, 0), 0);
    }

    private static void putting() {
        CHECK.about("promises 30, 31");
        ThreeTimes x = Check.with("s1 4 30;");
        int[] put = {127, 128, -129, 256, 32767, 32768, -32769, Integer.MAX_VALUE, Integer.MIN_VALUE, -1};
        int[][] want = {{127, -128, 127, 0, -1, 0, -1, -1, 0, -1},
            {127, 128, -129, 256, 32767, -32768, 32767, -1, 0, -1}, put};
        for (int sort = 0; sort < 3; sort++) {
            x.row(sort, sort, put.length);
            for (int i = 0; i < put.length; i++) {
                CHECK.due("put(" + sort + ", " + i + ")", x.put(sort, i, put[i]), 0);
                CHECK.due("element(" + sort + ", " + i + ")", x.element(sort, i), want[sort][i]);
            }
        }
        x.row(0, 0, 2);
        CHECK.due("put(0, 2, 1)", x.put(0, 2, 1), -13);
        CHECK.due("put(0, -1, 1)", x.put(0, -1, 1), -13);
        CHECK.due("put(5, -1, 1)", x.put(5, -1, 1), -11);
        CHECK.due("put(8, 0, 1)", x.put(8, 0, 1), -1);
        CHECK.due("put(-1, 0, 1)", x.put(-1, 0, 1), -1);
        x.keep(5, 1, 0);
        CHECK.due("put to a sender", x.put(5, -1, 1), -12);
        CHECK.due("a neighbour", x.element(0, 1), 0);
    }

    private static int thrownBy(ThreeTimes x, int d, int i) {
        try {
            x.element(d, i);
            return NOTHING_THROWN;
        } catch (RuntimeException e) {
            if (e.getClass() == IllegalArgumentException.class) {
                return ARGUMENT;
            }
            return e.getClass() == IllegalStateException.class ? STATE : -1;
        }
    }

    private static void elementsThatThrow() {
        CHECK.about("promise 31");
        ThreeTimes x = Check.with("s1 4 30;");
        x.row(0, 0, 3);
        x.keep(1, 1, 0);
        CHECK.due("element(0, 0) throws", thrownBy(x, 0, 0), NOTHING_THROWN);
        CHECK.due("element(0, 2) throws", thrownBy(x, 0, 2), NOTHING_THROWN);
        CHECK.due("element(0, 3) throws", thrownBy(x, 0, 3), STATE);
        CHECK.due("element(0, -1) throws", thrownBy(x, 0, -1), STATE);
        CHECK.due("element(1, 0) throws", thrownBy(x, 1, 0), STATE);
        CHECK.due("element(2, 0) throws", thrownBy(x, 2, 0), STATE);
        CHECK.due("element(8, 0) throws", thrownBy(x, 8, 0), ARGUMENT);
        CHECK.due("element(-1, -1) throws", thrownBy(x, -1, -1), ARGUMENT);
        CHECK.due("element(MIN, 0) throws", thrownBy(x, Integer.MIN_VALUE, 0), ARGUMENT);
    }

    private static void row(ThreeTimes x, int d, int... want) {
        for (int i = 0; i < want.length; i++) {
            CHECK.due("element(" + d + ", " + i + ")", x.element(d, i), want[i]);
        }
    }

    private static void copying() {
        CHECK.about("promise 32");
        ThreeTimes x = new ThreeTimes();
        Check.fill(x, 0, 1, 1, 2, 3, 4, 5);
        Check.fill(x, 1, 1, 10, 20, 30);
        CHECK.due("copy(0, 1, 1, 0, 2)", x.copy(0, 1, 1, 0, 2), 2);
        row(x, 1, 2, 3, 30);
        row(x, 0, 1, 2, 3, 4, 5);
        CHECK.due("all of it", x.copy(1, 0, 0, 2, 3), 3);
        row(x, 0, 1, 2, 2, 3, 30);
        CHECK.due("none at the ends", x.copy(0, 5, 1, 3, 0), 0);
        Check.fill(x, 0, 2, 1, 2, 3, 4, 5);
        CHECK.due("forth over itself", x.copy(0, 0, 0, 1, 4), 4);
        row(x, 0, 1, 1, 2, 3, 4);
        CHECK.due("back over itself", x.copy(0, 1, 0, 0, 4), 4);
        row(x, 0, 1, 2, 3, 4, 4);
        x.row(2, 0, 100);
        CHECK.due("a hundred", x.copy(2, 0, 2, 0, 100), 100);
    }

    private static void copyingRefused() {
        CHECK.about("promise 32, refusals");
        ThreeTimes x = Check.with("s1 4 30;");
        int max = Integer.MAX_VALUE;
        int min = Integer.MIN_VALUE;
        Check.fill(x, 0, 1, 1, 2, 3, 4, 5);
        Check.fill(x, 1, 1, 10, 20, 30);
        x.row(2, 2, 5);
        x.keep(3, 1, 0);
        int[][] calls = {{8, 0, 0, 0, 1, -1}, {0, 0, -1, 0, 1, -1}, {8, 0, 4, 0, 1, -1}, {4, 0, 0, 0, 1, -11},
            {0, 0, 4, 0, -1, -11}, {3, 0, 4, 0, 1, -11}, {3, 0, 0, 0, 1, -12}, {0, 0, 3, 0, 1, -12},
            {3, 0, 3, 0, 1, -12}, {0, 0, 2, 0, 1, -12}, {0, 9, 2, 9, 1, -12}, {0, 4, 1, 0, 2, -13},
            {0, 0, 1, 2, 2, -13}, {0, -1, 1, 0, 1, -13}, {0, 0, 1, -1, 1, -13}, {0, 0, 1, 0, -1, -13},
            {0, 6, 1, 0, 0, -13}, {0, 0, 1, 4, 0, -13}, {0, max, 1, 0, max, -13}, {0, 0, 1, max, 1, -13},
            {0, 1, 1, 1, max, -13}, {0, min, 1, 0, 1, -13}, {0, 0, 1, 0, min, -13}};
        for (int[] c : calls) {
            String told = "copy(" + c[0] + ", " + c[1] + ", " + c[2] + ", " + c[3] + ", " + c[4] + ")";
            CHECK.due(told, x.copy(c[0], c[1], c[2], c[3], c[4]), c[5]);
        }
        row(x, 0, 1, 2, 3, 4, 5);
        row(x, 1, 10, 20, 30);
    }

    private static void faiths() {
        CHECK.about("promise 33");
        ThreeTimes x = Check.with("s0 7 30;s1 7 30;s2 7 30;s3 20 30;s4 7 30;s5 7 30;s6 7 30;s7 20 30;");
        int[] want = {10, 40, 24, -10, 80, 5, 47, -15};
        for (int s = 0; s < want.length; s++) {
            x.keep(s, 1, s);
            CHECK.due("faith(" + s + ")", x.faith(s), want[s]);
        }
        x.row(0, 0, 1);
        x.keep(1, 0, 0);
        CHECK.due("faith of a row", x.faith(0), FAR - 12);
        CHECK.due("faith of nothing", x.faith(1), FAR - 11);
        CHECK.due("faith(8)", x.faith(8), FAR - 1);
        CHECK.due("faith(-1)", x.faith(-1), FAR - 1);
    }

    private static void tosses() {
        CHECK.about("promise 34");
        // The kinds in another order than the senders' numbers: a number is the sender's, not its kind's.
        int[] kinds = {7, 6, 5, 4, 3, 2, 1, 0};
        int[] want = {204, 1, 2, 103, 4, -15, 6, 7};
        ThreeTimes x = Check.with("s7 1 9;s6 1 9;s5 1 9;s4 1 9;s3 1 9;s2 1 9;s1 1 9;s0 1 9;");
        for (int s = 0; s < kinds.length; s++) {
            x.keep(s, 1, s);
            CHECK.due("toss of kind " + kinds[s], x.toss(s), want[s]);
        }
        for (int s = 0; s < kinds.length; s++) {
            x.keep(7 - s, 1, s);
            CHECK.due("toss of kind " + kinds[s] + " by another shelf", x.toss(7 - s), want[s]);
        }
        x = Check.with("s7 0 9;s6 0 9;s5 0 9;s4 0 9;s3 0 9;s2 0 9;s1 0 9;s0 0 9;");
        for (int s = 0; s < kinds.length; s++) {
            x.keep(s, 1, s);
            CHECK.due("toss of kind " + kinds[s] + " with FIGURE 0", x.toss(s), -15);
        }
        x.row(0, 0, 1);
        x.keep(1, 0, 0);
        CHECK.due("toss of a row", x.toss(0), -12);
        CHECK.due("toss of nothing", x.toss(1), -11);
        CHECK.due("toss(8)", x.toss(8), -1);
        CHECK.due("toss(-1)", x.toss(-1), -1);
    }

    private static void tossesOfSendersKept() {
        CHECK.about("promise 34, numbers as they were kept");
        ThreeTimes x = Check.with("s3 7 30;s3 7 30;s3 7 30;");
        x.image();
        Check.read(x, "s0 5 0;s4 20 100;s7 20 100;");
        x.keep(0, 1, 3);
        x.keep(1, 1, 4);
        x.keep(2, 1, 5);
        x.keep(3, 1, 2);
        x.restore();
        CHECK.due("toss of a sender that is gone", x.toss(0), 3);
        CHECK.due("toss of a NAMED one that is gone", x.toss(1), 104);
        CHECK.due("toss of a FEARED one that is gone", x.toss(2), 185);
        CHECK.due("toss of one of three alike", x.toss(3), 2);
        CHECK.due("toss again", x.toss(3), 2);
        x.keep(3, 1, 0);
        CHECK.due("toss of another of them", x.toss(3), 0);
    }
}
