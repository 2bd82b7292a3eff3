/** "A refused call changes nothing", and neither does a call that only asks, as all that can be told shows. */
public final class NothingChangesTest {
    private static final String[][] REFUSED = {
        {"room(-1)", "-1"}, {"room(8)", "-1"}, {"room(0)", "-11"}, {"room(1)", "-12"}, {"room(4)", "-12"},
        {"room(3)", "-1000"}, {"room(5)", "-2003"}, {"room(6)", "-2003"}, {"room(7)", "-1004"},
        {"sender(3, 0)", "-1"}, {"sender(0, 3)", "-1"}, {"returner(3, 5)", "-1"}, {"returner(0, 6)", "-1"},
        {"returner(2, 5)", "-4"},
        {"set(0, 0)", "-1"}, {"set(0, 21)", "-1"}, {"set(1, 0)", "-1"}, {"set(1, 6)", "-1"}, {"set(3, 7)", "-1"},
        {"set(-1, 7)", "-1"}, {"set(0, 5)", "-3"}, {"set(1, 5)", "-3"},
        {"holds(0, 101)", "-1"}, {"holds(0, -1)", "-1"}, {"holds(3, 5)", "-1"},
        {"pair(3, 0, true)", "-1"}, {"pair(0, 3, true)", "-1"}, {"pair(-1, 0, false)", "-1"},
        {"of(0, 6)", "-1"}, {"of(-1, 0)", "-1"}, {"of(4, 0)", "-4"},
        {"sumSent(3, 0)", "-1"}, {"sumSent(0, 3)", "-1"}, {"sumCame(3, 0)", "-1"}, {"sumCame(0, 3)", "-1"},
        {"judge(8)", "-1"}, {"judge(0)", "-11"}, {"judge(1)", "-12"},
        {"sends(3, 0)", "-1"}, {"sends(0, 3)", "-1"}, {"back(0, 11, true)", "-1"}, {"back(3, 1, true)", "-1"},
        {"held(3, 0)", "-1000000001"}, {"held(0, 2)", "-1000000003"}, {"trust(3, 0)", "-1000000001"},
        {"giving(3)", "-1"}, {"best(3, 0)", "-1"}, {"best(1, 2)", "-1"},
        {"worth(0, 0, 0)", "-1000000001"}, {"worth(0, 0, 21)", "-1000000001"}, {"worth(3, 0, 1)", "-1000000001"},
        {"promise(0, 0, 101)", "-1000000001"}, {"promise(0, 3, 1)", "-1000000001"},
        {"lastTurn(13, 0, 0)", "-1"}, {"lastTurn(1, 13, 0)", "-1"}, {"lastTurn(1, 0, 2)", "-1"},
        {"lands(8, 2)", "-1000000001"}, {"lands(2, 0)", "-1000000011"}, {"lands(2, 1)", "-1000000012"},
        {"lands(2, 5)", "-1000000013"}, {"words(8, 2)", "-1000000001"}, {"words(2, 0)", "-1000000011"},
        {"words(2, 1)", "-1000000012"}, {"words(2, 3)", "-1000000013"},
        {"parts(0, 0, 0, 0)", "-1"}, {"parts(0, 3, 0, 0)", "-1"}, {"parts(0, 1, 0, 2)", "-1"}, {"count(7)", "-1"},
        {"keep(1, 1, 3)", "-1"}, {"keep(2, 2, 0)", "-1"}, {"keep(8, 1, 0)", "-1"}, {"keep(-1, 0, 0)", "-1"},
        {"row(2, 0, 101)", "-1"}, {"row(2, 3, 1)", "-1"}, {"row(8, 0, 1)", "-1"}, {"row(2, 0, -1)", "-14"},
        {"row(1, 0, -1)", "-14"}, {"row(0, 0, -1)", "-14"},
        {"put(8, 0, 9)", "-1"}, {"put(0, 0, 9)", "-11"}, {"put(1, 0, 9)", "-12"}, {"put(2, 3, 9)", "-13"},
        {"put(2, -1, 9)", "-13"},
        {"element(8, 0)", "throws.IllegalArgumentException"}, {"element(0, 0)", "throws.IllegalStateException"},
        {"element(1, 0)", "throws.IllegalStateException"}, {"element(2, 3)", "throws.IllegalStateException"},
        {"copy(8, 0, 2, 0, 1)", "-1"}, {"copy(2, 0, 8, 0, 1)", "-1"}, {"copy(2, 0, 0, 0, 1)", "-11"},
        {"copy(2, 0, 1, 0, 1)", "-12"}, {"copy(2, 0, 4, 0, 1)", "-12"}, {"copy(5, 0, 2, 0, 4)", "-13"},
        {"copy(5, 0, 2, 1, 3)", "-13"}, {"copy(5, 5, 2, 0, 2)", "-13"}, {"copy(5, 0, 2, -1, 2)", "-13"},
        {"copy(5, 0, 2, 0, -1)", "-13"},
        {"faith(8)", "-1000000001"}, {"faith(0)", "-1000000011"}, {"faith(2)", "-1000000012"},
        {"toss(8)", "-1"}, {"toss(0)", "-11"}, {"toss(2)", "-12"}};

    private static final String[] ASKED = {"sender(0, 2)", "returner(0, 5)", "of(3, 4)", "sumSent(0, 2)",
        "sumCame(1, 2)", "judge(2)", "sends(0, 0)", "sends(1, 1)", "sends(2, 2)", "back(0, 10, true)",
        "back(1, 10, false)", "held(0, 0)", "trust(0, 0)", "trust(0, 1)", "giving(0)", "giving(1)", "giving(2)",
        "best(0, 0)", "best(1, 1)", "worth(0, 1, 20)", "worth(1, 1, 20)", "worth(2, 0, 20)", "promise(0, 0, 50)",
        "promise(1, 0, 100)", "lastTurn(12, 3, 1)", "lands(2, 2)", "words(2, 2)", "parts(0, 1, 0, 0)",
        "parts(1, 2, 1, 1)", "count(4)", "element(2, 1)", "faith(1)", "toss(1)"};

    private static final String[] REFUSED_WHEN_FULL = {"pair(0, 0, false)", "pair(7, 7, true)", "all()", "room(0)",
        "room(1)", "set(0, 1)", "set(1, 1)", "of(100, 0)"};
    private static final String[] ANSWERS_WHEN_FULL = {"-2", "-2", "-2", "-2000", "-2000", "-3", "-3", "-4"};

    private static final Check CHECK = new Check();

    public static void main(String[] args) {
        refusedCalls();
        refusedWithoutAny();
        refusedWhenFull();
        askingCalls();
        tellingFinds();
        CHECK.end();
    }

    /** Some of all: pairs, an image taken ahead of two of them, a shelf of each kind, and texts with faults. */
    private static Run game() {
        Run run = new Run(CHECK, "s5 19 30;s7 20 40;s3 5 50;m40l3v20w60;x70;m50;");
        run.due("pair(0, 0, true)", 10).due("pair(2, 1, false)", 1).due("image()", 2).due("pair(2, 0, false)", 1);
        run.due("pair(1, 1, false)", 10).due("set(2, 777)", -999580867).due("holds(2, 51)", 50).due("keep(1, 1, 0)", 0);
        return run.fill(2, 0, 1, 2, 3).fill(3, 0).fill(4, 1, 7).fill(5, 0, 'm', '1', ';', 'c', '0', ';')
            .fill(6, 0, 'm', '1', ';', 't', '5', ';').fill(7, 0, 'm', '1', ';', 't');
    }

    private static void refusedCalls() {
        String told = told(game());
        for (String[] refused : REFUSED) {
            CHECK.about("a refused " + refused[0] + " changes nothing");
            Run run = game().due(refused[0], refused[1]);
            CHECK.due("all that is told", told(run), told);
        }
    }

    private static void refusedWithoutAny() {
        String[] refused = {"restore()", "all()", "pair(0, 0, false)", "of(0, 0)", "judge(0)", "faith(0)"};
        String[] answers = {"-3", "-3", "-1", "-4", "-11", "-1000000011"};
        String told = told(new Run(CHECK));
        for (int i = 0; i < refused.length; i++) {
            CHECK.about("a refused " + refused[i] + " on a new object changes nothing");
            CHECK.due("all that is told", told(new Run(CHECK).due(refused[i], answers[i])), told);
        }
    }

    /** Eight of both, and 100 pairs; an empty image. */
    private static Run full() {
        Run run = new Run(CHECK).fill(0, 0, 's', '0', ' ', '1', ' ', '2', ';').fill(1, 0, 'x', '9', ';');
        run.due("image()", 0);
        for (int i = 0; i < 8; i++) {
            run.due("room(0)", 1).due("room(1)", 1);
        }
        run.due("all()", 64);
        for (int i = 64; i < 100; i++) {
            run.due("pair(1, 2, true)", 1);
        }
        return run;
    }

    private static void refusedWhenFull() {
        String told = told(full());
        for (int i = 0; i < REFUSED_WHEN_FULL.length; i++) {
            CHECK.about("a refused " + REFUSED_WHEN_FULL[i] + " in a full room changes nothing");
            Run run = full().due(REFUSED_WHEN_FULL[i], ANSWERS_WHEN_FULL[i]);
            CHECK.due("all that is told", told(run), told);
        }
    }

    private static void askingCalls() {
        String told = told(game());
        for (String asked : ASKED) {
            CHECK.about(asked + " changes nothing");
            Run run = game();
            String answer = run.answer(asked);
            CHECK.due("again", run.answer(asked), answer);
            CHECK.due("all that is told", told(run), told);
        }
    }

    /** What is told finds a change of each sort; else the tests ahead would find none. */
    private static void tellingFinds() {
        CHECK.about("all that is told finds a change");
        String told = told(game());
        String[] changing = {"set(2, 778)", "holds(0, 31)", "pair(0, 2, false)", "pair(0, 0, true)", "all()", "image()",
            "restore()", "keep(1, 1, 1)", "keep(1, 0, 0)", "keep(0, 1, 0)", "row(2, 1, 3)", "row(3, 1, 0)",
            "row(4, 0, 1)",
            "row(0, 0, 0)", "put(2, 2, 4)", "copy(2, 0, 2, 1, 1)"};
        for (String call : changing) {
            Run run = game();
            run.answer(call);
            CHECK.due(call, told(run).equals(told) ? 0 : 1, 1);
        }
    }

    /** All that can be told of a run's object, and of its image; it ends the use of the object. */
    private static String told(Run run) {
        StringBuilder told = new StringBuilder();
        tellGame(run, told);
        tellShelves(run, told);
        tell(run, told, "restore()");
        tellGame(run, told);
        return told.toString();
    }

    private static void tell(Run run, StringBuilder told, String call) {
        told.append(call).append(' ').append(run.answer(call)).append('\n');
    }

    private static void tellGame(Run run, StringBuilder told) {
        for (int what = 0; what < 7; what++) {
            tell(run, told, "count(" + what + ")");
        }
        int senders = Integer.parseInt(run.answer("count(0)"));
        for (int s = 0; s < senders; s++) {
            for (int what = 0; what < 3; what++) {
                tell(run, told, "sender(" + s + ", " + what + ")");
            }
        }
        int returners = Integer.parseInt(run.answer("count(1)"));
        for (int r = 0; r < returners; r++) {
            for (int what = 0; what < 6; what++) {
                tell(run, told, "returner(" + r + ", " + what + ")");
            }
        }
        // The last five pairs, as all of a hundred would be more calls than an object has.
        int pairs = Integer.parseInt(run.answer("count(2)"));
        for (int i = Math.max(0, pairs - 5); i < pairs; i++) {
            for (int what = 0; what < 6; what++) {
                tell(run, told, "of(" + i + ", " + what + ")");
            }
        }
        tell(run, told, "set(2, 0)");
    }

    private static void tellShelves(Run run, StringBuilder told) {
        for (int d = 0; d < 8; d++) {
            tell(run, told, "faith(" + d + ")");
            tell(run, told, "toss(" + d + ")");
            String element = "";
            for (int i = 0; i < 10 && !element.startsWith("throws"); i++) {
                element = run.answer("element(" + d + ", " + i + ")");
                told.append(element).append('\n');
            }
        }
        // What they hold now is told, so shelf 0 is free for rows by which the sorts of the others are told.
        for (int sort = 0; sort < 3; sort++) {
            run.answer("row(0, " + sort + ", 0)");
            for (int d = 1; d < 8; d++) {
                tell(run, told, "copy(" + d + ", 0, 0, 0, 0)");
            }
        }
    }
}
