/** Promises 1 to 6: a new object, room, sender, returner, set, holds. */
public final class RoomsTest {
    private static final Check CHECK = new Check();

    public static void main(String[] args) {
        newObject();
        roomReadsAll();
        roomRefusals();
        roomFaultsOfBytes();
        roomFaultsOfStatements();
        roomWithFaultLeavesAll();
        senders();
        returners();
        settings();
        holdings();
        CHECK.end();
    }

    private static void text(ThreeTimes x, String text, int want) {
        CHECK.due("room of \"" + text + "\"", Check.read(x, text), want);
    }

    private static void text(String text, int want) {
        text(new ThreeTimes(), text, want);
    }

    private static void newObject() {
        CHECK.about("promise 1");
        ThreeTimes x = new ThreeTimes();
        int[] counts = {0, 0, 0, 0, 0, 10, 3};
        for (int what = 0; what < counts.length; what++) {
            CHECK.due("count(" + what + ")", x.count(what), counts[what]);
        }
        CHECK.due("z", x.set(2, 1), 1);
        CHECK.due("restore()", x.restore(), -3);
        for (int d = 0; d < 8; d++) {
            CHECK.due("put(" + d + ", 0, 0)", x.put(d, 0, 0), -11);
        }
    }

    private static void roomReadsAll() {
        CHECK.about("promise 2");
        ThreeTimes x = new ThreeTimes();
        text(x, "c20;t5;s0 20 100;m100l100v100w100;x0;s7 0 0;", 6);
        CHECK.due("COINS", x.count(5), 20);
        CHECK.due("TIMES", x.count(6), 5);
        CHECK.due("senders", x.count(0), 2);
        CHECK.due("returners", x.count(1), 2);
        text(x, "c1;c2;t1;", 3);
        CHECK.due("the last COINS", x.count(5), 2);
        CHECK.due("TIMES", x.count(6), 1);
        CHECK.due("the row stays", x.element(7, 0), 'c');
        CHECK.due("room again", x.room(7), 3);

        // What a statement leaves out is 0, whatever stood there in a text ahead of it.
        text(x, "m40l3v50w90;x1w2;", 2);
        text(x, "x10;m7;", 2);
        for (int what = 2; what <= 4; what++) {
            CHECK.due("returner(4, " + what + ")", x.returner(4, what), 0);
            CHECK.due("returner(5, " + what + ")", x.returner(5, what), 0);
        }

        StringBuilder longest = new StringBuilder();
        for (int i = 0; i < 32; i++) {
            longest.append("t1;");
        }
        text(longest + "c10;", 33);
        text(longest + "t2;", 33);
        text(longest + "t2;t", -1100);
    }

    private static void roomRefusals() {
        CHECK.about("promise 2");
        ThreeTimes x = Check.with("s0 1 1;");
        CHECK.due("room(-1)", x.room(-1), -1);
        CHECK.due("room(8)", x.room(8), -1);
        CHECK.due("room(0)", x.room(0), -11);
        x.keep(0, 1, 0);
        CHECK.due("room of a sender", x.room(0), -12);
        x.row(0, 1, 3);
        CHECK.due("room of shorts", x.room(0), -12);
        x.row(0, 2, 0);
        CHECK.due("room of ints", x.room(0), -12);
        x.row(0, 0, 0);
        CHECK.due("room of no bytes", x.room(0), -1000);
        CHECK.due("senders", x.count(0), 1);
    }

    private static void roomFaultsOfBytes() {
        CHECK.about("promise 2, kind 1");
        text("q", -1000);
        text(";", -1000);
        text(" c5;", -1000);
        text("C5;", -1000);
        text("c", -1001);
        text("c;", -1001);
        text("c-1;", -1001);
        text("c00;", -1002);
        text("c01;", -1002);
        text("c0", -1002);
        text("c123", -1004);
        text("c1234;", -1004);
        text("c5l3;", -1002);
        text("c5;c", -1004);
        text("c5;;", -1003);
        text("c5; c6;", -1003);
        text("s", -1001);
        text("s ", -1001);
        text("sx", -1001);
        text("s0", -1002);
        text("s00 1 1;", -1002);
        text("s0;", -1002);
        text("s0 ", -1003);
        text("s0  1 1;", -1003);
        text("s0 1;", -1004);
        text("s0 01 1;", -1004);
        text("s0 1000 1;", -1006);
        text("s0 1 ", -1005);
        text("s0 1 ;", -1005);
        text("s0 1 00;", -1006);
        text("s0 1 1", -1006);
        text("s0 1 1 ;", -1006);
        text("m;", -1001);
        text("ml1;", -1001);
        text("m1l;", -1003);
        text("m1l", -1003);
        text("m1l1l1;", -1004);
        text("m1v1l1;", -1004);
        text("m1w1v1;", -1004);
        text("m1w1w1;", -1004);
        text("m1v1v1;", -1004);
        text("m1w1l1;", -1004);
        text("m1 ;", -1002);
        text("x1l00;", -1004);
        text("x1v;", -1003);
        text("x1w;", -1003);
        text("x1l1v1w1", -1008);
        text("x", -1001);
        text("\u0000", -1000);
        text("c5;\u0000", -1003);
        text("c5\u0000", -1002);
        text("c5\u00bb", -1002);
        text("m1w\u00ff", -1003);
        // Kind 1 of any place goes ahead of kind 2.
        text("c99;t", -1005);
        text("s9 99 999;?", -1010);
    }

    private static void roomFaultsOfStatements() {
        CHECK.about("promise 2, kind 2");
        text("c0;", -2000);
        text("c21;", -2000);
        text("c999;", -2000);
        text("t0;", -2000);
        text("t6;", -2000);
        text("c1;t6;c0;", -2003);
        text("s8 0 0;", -2000);
        text("s9 0 0;", -2000);
        text("s0 21 0;", -2000);
        text("s0 0 101;", -2000);
        text("s0 20 100;s0 0 101;", -2010);
        text("m101;", -2000);
        text("m1l101;", -2000);
        text("m1v101;", -2000);
        text("x1w101;", -2000);
        text("x1l1v1w1;m1l1v1w999;", -2009);

        String sevenSenders = "s0 0 0;s0 0 0;s0 0 0;s0 0 0;s0 0 0;s0 0 0;s0 0 0;";
        text(sevenSenders + "s0 0 0;", 8);
        text(sevenSenders + "s0 0 0;s0 0 0;", -2056);
        ThreeTimes x = Check.with(sevenSenders);
        text(x, "c5;s0 0 0;s0 0 0;", -2010);
        CHECK.due("senders", x.count(0), 7);
        text(x, "s0 0 0;", 1);
        text(x, "s0 0 0;", -2000);
        text(x, "m0;m0;m0;x0;x0;x0;m0;x0;", 8);
        text(x, "m0;", -2000);
        text(x, "x0;", -2000);
        text("m0;m0;m0;x0;x0;x0;m0;x0;x0;", -2024);

        x = Check.with("s0 0 0;m0;");
        x.pair(0, 0, false);
        text(x, "c5;", -2000);
        text(x, "m1;t3;", -2003);
        text(x, "m1;s0 0 0;", 2);
        CHECK.due("returners", x.count(1), 2);
    }

    private static void roomWithFaultLeavesAll() {
        CHECK.about("promise 2, with a fault nothing comes");
        ThreeTimes x = Check.with("c7;t2;s0 1 1;x1;");
        text(x, "c8;t3;s0 2 2;m2;c0;", -2016);
        text(x, "c8;t3;s0 2 2;m2;c", -1017);
        CHECK.due("senders", x.count(0), 1);
        CHECK.due("returners", x.count(1), 1);
        CHECK.due("COINS", x.count(5), 7);
        CHECK.due("TIMES", x.count(6), 2);
    }

    private static void senders() {
        CHECK.about("promise 3");
        ThreeTimes x = Check.with("s5 17 83;s2 0 100;");
        CHECK.due("KIND", x.sender(0, 0), 5);
        CHECK.due("FIGURE", x.sender(0, 1), 17);
        CHECK.due("HOLDS", x.sender(0, 2), 83);
        CHECK.due("KIND", x.sender(1, 0), 2);
        CHECK.due("FIGURE", x.sender(1, 1), 0);
        CHECK.due("HOLDS", x.sender(1, 2), 100);
        CHECK.due("sender(0, 3)", x.sender(0, 3), -1);
        CHECK.due("sender(0, -1)", x.sender(0, -1), -1);
        CHECK.due("sender(2, 0)", x.sender(2, 0), -1);
        CHECK.due("sender(-1, 0)", x.sender(-1, 0), -1);
    }

    private static void returners() {
        CHECK.about("promise 4");
        ThreeTimes x = Check.with("m11l22v33w44;x55v66;m77w88;x99l9;s0 1 0;");
        int[][] want = {{0, 11, 22, 33, 44, -4}, {1, 55, 0, 66, 0, -4}, {0, 77, 0, 0, 88, -4}, {1, 99, 9, 0, 0, -4}};
        for (int r = 0; r < want.length; r++) {
            for (int what = 0; what < want[r].length; what++) {
                CHECK.due("returner(" + r + ", " + what + ")", x.returner(r, what), want[r][what]);
            }
            CHECK.due("returner(" + r + ", 6)", x.returner(r, 6), -1);
            CHECK.due("returner(" + r + ", -1)", x.returner(r, -1), -1);
        }
        CHECK.due("returner(4, 0)", x.returner(4, 0), -1);
        CHECK.due("returner(-1, 5)", x.returner(-1, 5), -1);

        // 3 coins come to the third: 77 hundredths are 2, so the name is 66; below LEAST it counts as come, too.
        x.pair(0, 2, false);
        CHECK.due("NAME", x.returner(2, 5), 66);
        x.pair(0, 3, false);
        CHECK.due("NAME below LEAST", x.returner(3, 5), 0);
        CHECK.due("NAME of another", x.returner(0, 5), -4);
        x = Check.with("s0 0 0;s0 7 0;m50;");
        x.pair(0, 0, false);
        CHECK.due("NAME, nothing came", x.returner(0, 5), -4);
        x.pair(1, 0, false);
        CHECK.due("NAME, 10 of 21", x.returner(0, 5), 47);
        x.pair(0, 0, false);
        CHECK.due("NAME, 10 of 21", x.returner(0, 5), 47);
        x = Check.with("t1;s0 1 0;m100;");
        x.pair(0, 0, false);
        CHECK.due("NAME, 1 of 1", x.returner(0, 5), 100);
    }

    private static void settings() {
        CHECK.about("promise 5");
        ThreeTimes x = new ThreeTimes();
        CHECK.due("set(0, 20)", x.set(0, 20), 10);
        CHECK.due("set(0, 1)", x.set(0, 1), 20);
        CHECK.due("set(0, 0)", x.set(0, 0), -1);
        CHECK.due("set(0, 21)", x.set(0, 21), -1);
        CHECK.due("set(0, 6)", x.set(0, 6), 1);
        CHECK.due("set(1, 5)", x.set(1, 5), 3);
        CHECK.due("set(1, 6)", x.set(1, 6), -1);
        CHECK.due("set(1, 0)", x.set(1, 0), -1);
        CHECK.due("set(1, 1)", x.set(1, 1), 5);
        CHECK.due("set(2, MIN)", x.set(2, Integer.MIN_VALUE), 1);
        CHECK.due("set(2, -1)", x.set(2, -1), Integer.MIN_VALUE);
        CHECK.due("set(2, MAX)", x.set(2, Integer.MAX_VALUE), -1);
        CHECK.due("set(2, 0)", x.set(2, 0), Integer.MAX_VALUE);
        CHECK.due("set(3, 1)", x.set(3, 1), -1);
        CHECK.due("set(-1, 1)", x.set(-1, 1), -1);
        CHECK.due("COINS", x.count(5), 6);
        CHECK.due("TIMES", x.count(6), 1);
        Check.read(x, "s0 0 0;m0;");
        x.pair(0, 0, false);
        CHECK.due("set(0, 5) behind a pair", x.set(0, 5), -3);
        CHECK.due("set(1, 5) behind a pair", x.set(1, 5), -3);
        CHECK.due("set(0, 0) behind a pair", x.set(0, 0), -1);
        CHECK.due("set(1, 6) behind a pair", x.set(1, 6), -1);
        CHECK.due("set(3, 1) behind a pair", x.set(3, 1), -1);
        CHECK.due("set(2, 9) behind a pair", x.set(2, 9), 0);
        CHECK.due("COINS", x.count(5), 6);
        CHECK.due("TIMES", x.count(6), 1);
    }

    private static void holdings() {
        CHECK.about("promise 6");
        ThreeTimes x = Check.with("s1 0 33;s1 0 34;m0;");
        CHECK.due("sends(0, 0)", x.sends(0, 0), 0);
        CHECK.due("holds(0, 100)", x.holds(0, 100), 33);
        CHECK.due("holds(0, 101)", x.holds(0, 101), -1);
        CHECK.due("holds(0, -1)", x.holds(0, -1), -1);
        CHECK.due("holds(2, 5)", x.holds(2, 5), -1);
        CHECK.due("holds(-1, 5)", x.holds(-1, 5), -1);
        CHECK.due("sends(0, 0)", x.sends(0, 0), 10);
        CHECK.due("HOLDS", x.sender(0, 2), 100);
        x.pair(0, 0, false);
        CHECK.due("holds(0, 0) behind a pair", x.holds(0, 0), 100);
        CHECK.due("HOLDS", x.sender(0, 2), 0);
        CHECK.due("HOLDS of the other", x.sender(1, 2), 34);
    }
}
