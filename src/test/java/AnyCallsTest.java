import java.util.Random;

/**
 * Long runs of calls with arguments of all sorts: nothing is thrown but what element throws, and what a sender would
 * send in mind is what it then sends in a pair.
 */
public final class AnyCallsTest {
    private static final int RUNS = 600;
    private static final int CALLS = 512;
    private static final int[] ODD = {Integer.MIN_VALUE, -1000, -2, -1, 8, 9, 13, 20, 21, 100, 101, 1000,
        Integer.MAX_VALUE};
    private static final String[] ROOMS = {"s0 5 0;s1 9 40;", "s2 9 1;s3 4 5;x50;", "s4 1 50;s5 10 0;m50;",
        "s6 3 30;s7 12 0;", "m40l3v50w90;x70l9;", "c20;t5;", "x30w7;c1;t1;", "m100;q", "s0 1 1;s9 0 0;", "t0;"};

    private static final Check CHECK = new Check();

    private final Random random;
    private final ThreeTimes x = new ThreeTimes();

    private AnyCallsTest(long seed) {
        random = new Random(seed);
    }

    public static void main(String[] args) {
        for (int run = 0; run < RUNS; run++) {
            new AnyCallsTest(run).run(run);
        }
        CHECK.end();
    }

    private void run(int run) {
        CHECK.about("run " + run);
        for (int call = 0; call < CALLS; call++) {
            int which = random.nextInt(33);
            try {
                ask(which);
            } catch (RuntimeException e) {
                CHECK.due("call " + call + ", kind " + which + ": " + e, 1, 0);
            }
        }
    }

    private int any() {
        int sort = random.nextInt(20);
        if (sort == 0) {
            return ODD[random.nextInt(ODD.length)];
        }
        if (sort == 1) {
            return random.nextInt();
        }
        return random.nextInt(sort < 12 ? 3 : 10);
    }

    private void ask(int which) {
        switch (which) {
            case 0: Check.read(x, ROOMS[random.nextInt(ROOMS.length)]); break;
            case 1: x.room(any()); break;
            case 2: x.sender(any(), any()); break;
            case 3: x.returner(any(), any()); break;
            case 4: x.set(any(), any()); break;
            case 5: x.holds(any(), any()); break;
            case 6: pairAsInMind(any(), any()); break;
            case 7: x.all(); break;
            case 8: x.of(any(), any()); break;
            case 9: x.sumSent(any(), any()); break;
            case 10: x.sumCame(any(), any()); break;
            case 11: x.judge(any()); break;
            case 12: x.sends(any(), any()); break;
            case 13: x.back(any(), any(), random.nextBoolean()); break;
            case 14: x.held(any(), any()); break;
            case 15: x.trust(any(), any()); break;
            case 16: x.giving(any()); break;
            case 17: x.best(any(), any()); break;
            case 18: x.worth(any(), any(), any()); break;
            case 19: x.promise(any(), any(), any()); break;
            case 20: x.lastTurn(any(), any(), any()); break;
            case 21: x.lands(any(), any()); break;
            case 22: x.words(any(), any()); break;
            case 23: x.parts(any(), any(), any(), any()); break;
            case 24: x.image(); break;
            case 25: x.restore(); break;
            case 26: x.count(any()); break;
            case 27: x.keep(any(), any(), any()); break;
            case 28: x.row(any(), any(), any()); break;
            case 29: x.put(any(), any(), any()); break;
            case 30: element(any(), any()); break;
            case 31: x.copy(any(), any(), any(), any(), any()); break;
            default: x.faith(any()); x.toss(any()); break;
        }
    }

    private void pairAsInMind(int sender, int returner) {
        int would = x.sends(sender, returner);
        int pairs = x.count(2);
        int did = x.pair(sender, returner, random.nextBoolean());
        if (did == -2) {
            CHECK.due("pairs at no room", pairs, 100);
            return;
        }
        CHECK.due("pair as in mind", did, would);
        CHECK.due("pairs", x.count(2), did < 0 ? pairs : pairs + 1);
        if (did >= 0) {
            int came = x.of(pairs, 3);
            int back = x.of(pairs, 4);
            CHECK.due("what came", came, did * x.count(6));
            CHECK.due("BACK no more than came", back >= 0 && back <= came ? 1 : 0, 1);
        }
    }

    private void element(int d, int i) {
        try {
            x.element(d, i);
        } catch (IllegalArgumentException e) {
            CHECK.due("a shelf that throws", d < 0 || d > 7 ? 1 : 0, 1);
        } catch (IllegalStateException e) {
            CHECK.due("no shelf that throws", d >= 0 && d <= 7 ? 1 : 0, 1);
        }
    }
}
