/** Promises 25 to 27: image, restore, count. */
public final class ImageTest {
    private static final Check CHECK = new Check();

    public static void main(String[] args) {
        imageTakesAll();
        imageIsTakenAnew();
        imageAheadOfAll();
        counts();
        CHECK.end();
    }

    private static void imageTakesAll() {
        CHECK.about("promises 25, 26");
        ThreeTimes x = Check.with("c9;t4;s3 5 6;s5 20 0;m25l2v3w4;x50;");
        CHECK.due("restore() without image", x.restore(), -3);
        CHECK.due("image() without pairs", x.image(), 0);
        x.pair(0, 0, false);
        x.pair(1, 1, true);
        x.set(2, 77);
        CHECK.due("image()", x.image(), 2);
        Check.fill(x, 0, 0, 5, 6);
        x.keep(1, 1, 0);
        Check.read(x, "s0 1 1;x1;");
        x.holds(0, 99);
        x.all();
        x.set(2, 5);
        CHECK.due("restore()", x.restore(), 2);
        CHECK.due("senders", x.count(0), 2);
        CHECK.due("returners", x.count(1), 2);
        CHECK.due("pairs", x.count(2), 2);
        CHECK.due("sent", x.count(3), 10);
        CHECK.due("HOLDS", x.sender(0, 2), 6);
        CHECK.due("sender(2, 0)", x.sender(2, 0), -1);
        CHECK.due("returner(2, 0)", x.returner(2, 0), -1);
        CHECK.due("NAME", x.returner(0, 5), 25);
        CHECK.due("TESTED, 1 came back", x.sends(0, 0), 1);
        CHECK.due("of(1, 5)", x.of(1, 5), 1);
        CHECK.due("of(2, 0)", x.of(2, 0), -4);
        CHECK.due("z", x.set(2, 8), 77);
        CHECK.due("the shelf stays a row", x.element(0, 1), 6);
        CHECK.due("the shelf keeps its sender", x.faith(1), 5);
        x.pair(0, 0, false);
        CHECK.due("restore() again", x.restore(), 2);
        CHECK.due("z", x.set(2, 8), 77);
        // The image stays as it was, whatever comes behind its restoring.
        x.pair(0, 0, false);
        x.holds(0, 1);
        CHECK.due("restore() once more", x.restore(), 2);
        CHECK.due("pairs", x.count(2), 2);
        CHECK.due("HOLDS", x.sender(0, 2), 6);
    }

    private static void imageIsTakenAnew() {
        CHECK.about("promises 25, 26, taken anew");
        ThreeTimes x = Check.with("s0 1 0;m0;");
        x.image();
        x.pair(0, 0, false);
        CHECK.due("image()", x.image(), 1);
        x.pair(0, 0, false);
        CHECK.due("restore()", x.restore(), 1);
        CHECK.due("sent", x.count(3), 1);
    }

    private static void imageAheadOfAll() {
        CHECK.about("promises 25, 26, of an empty room");
        ThreeTimes x = new ThreeTimes();
        CHECK.due("image()", x.image(), 0);
        x.set(0, 5);
        x.set(1, 2);
        Check.read(x, "s0 1 0;m0;");
        x.all();
        CHECK.due("restore()", x.restore(), 0);
        CHECK.due("senders", x.count(0), 0);
        CHECK.due("returners", x.count(1), 0);
        CHECK.due("COINS", x.count(5), 10);
        CHECK.due("TIMES", x.count(6), 3);
        CHECK.due("set(0, 4) without pairs", x.set(0, 4), 10);
        CHECK.due("a room again", x.room(7), 2);
    }

    private static void counts() {
        CHECK.about("promise 27");
        ThreeTimes x = Check.with("c8;t2;s0 5 0;s0 3 0;s0 0 0;m60;m0;");
        x.pair(0, 0, false);
        x.pair(1, 1, false);
        x.pair(1, 0, false);
        x.pair(2, 0, false);
        int[] want = {3, 2, 4, 11, 9, 8, 2, -1};
        for (int what = 0; what < want.length; what++) {
            CHECK.due("count(" + what + ")", x.count(what), want[what]);
        }
        CHECK.due("count(-1)", x.count(-1), -1);
        CHECK.due("count(MIN)", x.count(Integer.MIN_VALUE), -1);
    }
}
