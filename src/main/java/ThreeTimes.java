/**
 * Coins that a sender sends to a returner behind a door, where they are so many times as many, and what comes
 * back of them. What each call answers is told, promise by promise, in the project's document.
 */
public final class ThreeTimes {
    private static final int NO_SUCH = -1;
    private static final int NO_ROOM = -2;
    private static final int NOT_NOW = -3;
    private static final int NONE = -4;
    private static final int NOTHING_HELD = -11;
    private static final int OTHER_KIND = -12;
    private static final int NO_PLACE = -13;
    private static final int BELOW_NOTHING = -14;
    private static final int NO_FAILURE = -15;
    /** Added to the refusals of calls whose plain answers may be below 0. */
    private static final int FAR_BELOW = -1000000000;

    private static final int MOST_SHELVES = 8;
    private static final int MOST_SENDERS = 8;
    private static final int MOST_RETURNERS = 8;
    private static final int MOST_PAIRS = 100;
    private static final int MOST_ELEMENTS = 100;
    /** The shortest statement has three bytes ("t1;"), so a row of 100 holds 33 at most. */
    private static final int MOST_STATEMENTS = 34;
    private static final int MOST_COINS = 20;
    private static final int MOST_TIMES = 5;
    private static final int MOST_TURNS = 12;
    private static final int MOST_IN_MIND = 20;
    private static final int MOST_FIGURE = 20;
    private static final int HUNDRED = 100;
    private static final int ALL_BUT_SIGN = 0x7fffffff;

    private static final int SENDING = 0;
    private static final int RECKONED = 1;
    private static final int GIVEN = 2;
    private static final int TESTED = 3;
    private static final int NAMED = 4;
    private static final int LOTTED = 5;
    private static final int PROMISED = 6;
    private static final int FEARED = 7;

    // Columns of a sender, as the call "sender" numbers them.
    private static final int KIND = 0;
    private static final int FIGURE = 1;
    private static final int HOLDS = 2;
    private static final int SENDER_COLUMNS = 3;

    // Columns of a returner, as the call "returner" numbers them; the name is reckoned, so it has no column.
    private static final int BOX = 0;
    private static final int SHARE = 1;
    private static final int LEAST = 2;
    private static final int SEEN = 3;
    private static final int WORD = 4;
    private static final int RETURNER_COLUMNS = 5;
    private static final int NAME = 5;

    // Columns of a pair, as the call "of" numbers them.
    private static final int BY = 0;
    private static final int TO = 1;
    private static final int SENT = 2;
    private static final int CAME = 3;
    private static final int BACK = 4;
    private static final int WATCHED = 5;
    private static final int PAIR_COLUMNS = 6;

    // Columns of a statement of a room's text: where its letter stands, the letter, its numbers in order.
    private static final int PLACE = 0;
    private static final int LETTER = 1;
    private static final int FIRST = 2;
    private static final int SECOND = 3;
    private static final int THIRD = 4;
    private static final int FOURTH = 5;
    private static final int STATEMENT_COLUMNS = 6;

    private static final int NOTHING = 0;
    private static final int A_SENDER = 1;
    private static final int A_ROW = 2;

    private static final int BYTES = 0;
    private static final int SHORTS = 1;
    private static final int INTS = 2;

    /** Stands for a name, or for a last sending, that there isn't. */
    private static final int NOT_YET = -1;

    private final Game game = new Game();
    private final Game picture = new Game();
    private boolean pictured = false;
    private final Meeting meeting = new Meeting();
    private final Script script = new Script();
    private final Shelf[] shelves = new Shelf[MOST_SHELVES];

    public ThreeTimes() {
        for (int d = 0; d < shelves.length; d++) {
            shelves[d] = new Shelf();
        }
    }

    // ---- rooms

    public int room(int d) {
        Shelf shelf = shelfAt(d);
        if (shelf == null) {
            return NO_SUCH;
        }
        int refusal = shelf.refusalAsRow();
        if (refusal != 0) {
            return refusal;
        }
        if (shelf.sort != BYTES) {
            return OTHER_KIND;
        }
        if (!script.takesIn(shelf)) {
            return -1000 - script.at;
        }
        int untold = placeOfUntold(script.statements);
        if (untold >= 0) {
            return -2000 - untold;
        }
        for (int i = 0; i < script.statements.size; i++) {
            carryOut(script.statements, i);
        }
        return script.statements.size;
    }

    public int sender(int sender, int what) {
        if (!game.senders.has(sender) || what < 0 || what >= SENDER_COLUMNS) {
            return NO_SUCH;
        }
        return game.senders.read(sender, what);
    }

    public int returner(int returner, int what) {
        if (!game.returners.has(returner) || what < 0 || what > NAME) {
            return NO_SUCH;
        }
        if (what < NAME) {
            return game.returners.read(returner, what);
        }
        bringPastOf(returner);
        int name = meeting.nameOfReturner();
        return name == NOT_YET ? NONE : name;
    }

    public int set(int what, int n) {
        if (what == 2) {
            int was = game.z;
            game.z = n;
            return was;
        }
        int most = what == 0 ? MOST_COINS : MOST_TIMES;
        if (what < 0 || what > 1 || n < 1 || n > most) {
            return NO_SUCH;
        }
        if (game.pairs.size > 0) {
            return NOT_NOW;
        }
        int was = what == 0 ? game.coins : game.times;
        if (what == 0) {
            game.coins = n;
        } else {
            game.times = n;
        }
        return was;
    }

    public int holds(int sender, int n) {
        if (!game.senders.has(sender) || n < 0 || n > HUNDRED) {
            return NO_SUCH;
        }
        int was = game.senders.read(sender, HOLDS);
        game.senders.write(sender, HOLDS, n);
        return was;
    }

    // ---- pairs

    public int pair(int sender, int returner, boolean seen) {
        if (!areThere(sender, returner)) {
            return NO_SUCH;
        }
        if (game.pairs.size >= MOST_PAIRS) {
            return NO_ROOM;
        }
        return playAndWriteDown(sender, returner, seen);
    }

    public int all() {
        int wanted = game.senders.size * game.returners.size;
        if (wanted > MOST_PAIRS - game.pairs.size) {
            return NO_ROOM;
        }
        if (wanted == 0) {
            return NOT_NOW;
        }
        for (int s = 0; s < game.senders.size; s++) {
            for (int r = 0; r < game.returners.size; r++) {
                playAndWriteDown(s, r, false);
            }
        }
        return game.pairs.size;
    }

    public int of(int i, int what) {
        if (i < 0 || what < 0 || what >= PAIR_COLUMNS) {
            return NO_SUCH;
        }
        if (i >= game.pairs.size) {
            return NONE;
        }
        return game.pairs.read(i, what);
    }

    public int sumSent(int sender, int what) {
        if (!game.senders.has(sender) || what < 0 || what > 2) {
            return NO_SUCH;
        }
        int sent = game.pairs.sumWhere(BY, sender, SENT);
        int cameBack = game.pairs.sumWhere(BY, sender, BACK);
        if (what == 0) {
            return sent;
        }
        if (what == 1) {
            return cameBack;
        }
        return game.coins * game.pairs.rowsWhere(BY, sender) - sent + cameBack;
    }

    public int sumCame(int returner, int what) {
        if (!game.returners.has(returner) || what < 0 || what > 2) {
            return NO_SUCH;
        }
        int came = game.pairs.sumWhere(TO, returner, CAME);
        int sentBack = game.pairs.sumWhere(TO, returner, BACK);
        if (what == 0) {
            return came;
        }
        return what == 1 ? sentBack : came - sentBack;
    }

    public int judge(int d) {
        Shelf shelf = shelfAt(d);
        if (shelf == null) {
            return NO_SUCH;
        }
        int refusal = shelf.refusalAsRow();
        if (refusal != 0) {
            return refusal;
        }
        int told = 2 * game.pairs.size;
        int skipped = shelf.leastNumber();
        for (int i = 0; i < shelf.size; i++) {
            if (i >= told) {
                return told;
            }
            int due = game.pairs.read(i / 2, i % 2 == 0 ? SENT : BACK);
            int number = shelf.read(i);
            if (number != due && number != skipped) {
                return i;
            }
        }
        return NONE;
    }

    // ---- in mind

    public int sends(int sender, int returner) {
        if (!areThere(sender, returner)) {
            return NO_SUCH;
        }
        bring(sender, returner);
        return meeting.wouldSend();
    }

    public int back(int returner, int n, boolean seen) {
        if (!game.returners.has(returner) || n < 0 || n > game.coins) {
            return NO_SUCH;
        }
        bringReturner(returner);
        return meeting.sendBackOf(n, seen);
    }

    public int held(int sender, int returner) {
        if (!areThere(sender, returner)) {
            return FAR_BELOW + NO_SUCH;
        }
        bring(sender, returner);
        int name = meeting.nameOfReturner();
        return name == NOT_YET ? FAR_BELOW + NOT_NOW : meeting.holds - name;
    }

    public int trust(int sender, int returner) {
        if (!areThere(sender, returner)) {
            return FAR_BELOW + NO_SUCH;
        }
        bring(sender, returner);
        meeting.box = 0;
        int toMan = meeting.wouldSend();
        meeting.box = 1;
        return toMan - meeting.wouldSend();
    }

    public int giving(int sender) {
        if (!game.senders.has(sender)) {
            return NO_SUCH;
        }
        bringSender(sender);
        meeting.faceOneWhoKeepsAll();
        return meeting.wouldSend();
    }

    public int best(int returner, int what) {
        if (!game.returners.has(returner) || what < 0 || what > 1) {
            return NO_SUCH;
        }
        bringReturner(returner);
        int bestSent = 0;
        int most = meeting.senderHasBy(0);
        for (int n = 1; n <= game.coins; n++) {
            int has = meeting.senderHasBy(n);
            if (has > most) {
                most = has;
                bestSent = n;
            }
        }
        return what == 0 ? bestSent : most;
    }

    public int worth(int sender, int returner, int n) {
        if (!areThere(sender, returner) || n < 1 || n > MOST_IN_MIND) {
            return FAR_BELOW + NO_SUCH;
        }
        bring(sender, returner);
        int asItIs = meeting.keptOver(n);
        bring(sender, returner);
        meeting.share = 0;
        return asItIs - meeting.keptOver(n);
    }

    public int promise(int sender, int returner, int word) {
        if (!areThere(sender, returner) || word < 0 || word > HUNDRED) {
            return FAR_BELOW + NO_SUCH;
        }
        bring(sender, returner);
        meeting.word = word;
        int withWord = meeting.wouldSend();
        meeting.word = 0;
        return withWord - meeting.wouldSend();
    }

    public int lastTurn(int n, int k, int what) {
        if (n < 1 || n > MOST_TURNS || k < 0 || k > MOST_TURNS || what < 0 || what > 1) {
            return NO_SUCH;
        }
        int half = game.coins * game.times / 2;
        int turns = 0;
        int has = 0;
        for (int left = n - 1; left >= 0; left--) {
            int comesBack = left >= k ? half : 0;
            if (comesBack > game.coins) {
                turns++;
                has += comesBack;
            } else {
                has += game.coins;
            }
        }
        return what == 0 ? turns : has;
    }

    public int lands(int d, int e) {
        Shelf one = shelfAt(d);
        Shelf other = shelfAt(e);
        if (one == null || other == null) {
            return FAR_BELOW + NO_SUCH;
        }
        int refusal = refusalAsRows(one, other);
        if (refusal != 0) {
            return FAR_BELOW + refusal;
        }
        if (!one.isOfSendings(game.coins) || !other.isOfSendings(game.coins)) {
            return FAR_BELOW + NO_PLACE;
        }
        return one.sum() * other.size - other.sum() * one.size;
    }

    public int words(int d, int e) {
        Shelf one = shelfAt(d);
        Shelf other = shelfAt(e);
        if (one == null || other == null) {
            return FAR_BELOW + NO_SUCH;
        }
        int refusal = refusalAsRows(one, other);
        if (refusal != 0) {
            return FAR_BELOW + refusal;
        }
        if (one.size != other.size) {
            return FAR_BELOW + NO_PLACE;
        }
        int sum = 0;
        for (int i = 0; i < one.size; i++) {
            for (int j = i + 1; j < one.size; j++) {
                sum += one.signOf(i, j) * other.signOf(i, j);
            }
        }
        return sum;
    }

    public int parts(int a, int b, int returner, int what) {
        if (!areThere(a, returner) || !areThere(b, returner) || a == b || what < 0 || what > 1) {
            return NO_SUCH;
        }
        int partingTimes = 1;
        int mostUnlike = howUnlike(a, b, returner, 1);
        for (int times = 2; times <= MOST_TIMES; times++) {
            int unlike = howUnlike(a, b, returner, times);
            if (unlike > mostUnlike) {
                mostUnlike = unlike;
                partingTimes = times;
            }
        }
        return what == 0 ? partingTimes : mostUnlike;
    }

    // ---- the image, what is told

    public int image() {
        picture.become(game);
        pictured = true;
        return game.pairs.size;
    }

    public int restore() {
        if (!pictured) {
            return NOT_NOW;
        }
        game.become(picture);
        return game.pairs.size;
    }

    public int count(int what) {
        switch (what) {
            case 0:
                return game.senders.size;
            case 1:
                return game.returners.size;
            case 2:
                return game.pairs.size;
            case 3:
                return game.pairs.sum(SENT);
            case 4:
                return game.pairs.sum(BACK);
            case 5:
                return game.coins;
            case 6:
                return game.times;
            default:
                return NO_SUCH;
        }
    }

    // ---- shelves

    public int keep(int d, int what, int k) {
        Shelf shelf = shelfAt(d);
        if (shelf == null || what < 0 || what > 1) {
            return NO_SUCH;
        }
        if (what == 0) {
            shelf.held = NOTHING;
            return 0;
        }
        if (!game.senders.has(k)) {
            return NO_SUCH;
        }
        shelf.held = A_SENDER;
        shelf.number = k;
        shelf.kind = game.senders.read(k, KIND);
        shelf.figure = game.senders.read(k, FIGURE);
        shelf.holds = game.senders.read(k, HOLDS);
        return 0;
    }

    public int row(int d, int sort, int n) {
        Shelf shelf = shelfAt(d);
        if (shelf == null || sort < BYTES || sort > INTS || n > MOST_ELEMENTS) {
            return NO_SUCH;
        }
        if (n < 0) {
            return BELOW_NOTHING;
        }
        shelf.becomeRow(sort, n);
        return 0;
    }

    public int put(int d, int i, int v) {
        Shelf shelf = shelfAt(d);
        if (shelf == null) {
            return NO_SUCH;
        }
        int refusal = shelf.refusalAsRow();
        if (refusal != 0) {
            return refusal;
        }
        if (!shelf.has(i)) {
            return NO_PLACE;
        }
        shelf.write(i, v);
        return 0;
    }

    public long element(int d, int i) throws IllegalArgumentException, IllegalStateException {
        Shelf shelf = shelfAt(d);
        if (shelf == null) {
            throw new IllegalArgumentException("no such shelf");
        }
        if (shelf.held != A_ROW || !shelf.has(i)) {
            throw new IllegalStateException("no row, or no such place in it");
        }
        return shelf.read(i);
    }

    public int copy(int d, int i, int e, int j, int n) {
        Shelf from = shelfAt(d);
        Shelf to = shelfAt(e);
        if (from == null || to == null) {
            return NO_SUCH;
        }
        int refusal = refusalAsRows(from, to);
        if (refusal != 0) {
            return refusal;
        }
        if (from.sort != to.sort) {
            return OTHER_KIND;
        }
        if (!from.hasRun(i, n) || !to.hasRun(j, n)) {
            return NO_PLACE;
        }
        System.arraycopy(from.elements, i, to.elements, j, n);
        return n;
    }

    public int faith(int d) {
        Shelf shelf = shelfAt(d);
        if (shelf == null) {
            return FAR_BELOW + NO_SUCH;
        }
        int refusal = shelf.refusalAsSender();
        return refusal != 0 ? FAR_BELOW + refusal : shelf.faithOfSender();
    }

    public int toss(int d) {
        Shelf shelf = shelfAt(d);
        if (shelf == null) {
            return NO_SUCH;
        }
        int refusal = shelf.refusalAsSender();
        if (refusal != 0) {
            return refusal;
        }
        try {
            shelf.throwFailure();
            return NO_FAILURE;
        } catch (IllegalArgumentException named) {
            return shelf.number + 100;
        } catch (UnsupportedOperationException feared) {
            return 200 + shelf.faithOfSender();
        } catch (IllegalStateException other) {
            return shelf.number;
        }
    }

    // ---- helpers

    private Shelf shelfAt(int d) {
        return d >= 0 && d < shelves.length ? shelves[d] : null;
    }

    private static int refusalAsRows(Shelf one, Shelf other) {
        if (one.held == NOTHING || other.held == NOTHING) {
            return NOTHING_HELD;
        }
        return one.held != A_ROW || other.held != A_ROW ? OTHER_KIND : 0;
    }

    private boolean areThere(int sender, int returner) {
        return game.senders.has(sender) && game.returners.has(returner);
    }

    private void bring(int sender, int returner) {
        bringSender(sender);
        bringReturner(returner);
        bringPastOf(returner);
        bringLastOf(sender, returner);
    }

    private void bringSender(int sender) {
        bringSettings();
        meeting.kind = game.senders.read(sender, KIND);
        meeting.figure = game.senders.read(sender, FIGURE);
        meeting.holds = game.senders.read(sender, HOLDS);
    }

    private void bringReturner(int returner) {
        bringSettings();
        meeting.box = game.returners.read(returner, BOX);
        meeting.share = game.returners.read(returner, SHARE);
        meeting.least = game.returners.read(returner, LEAST);
        meeting.seen = game.returners.read(returner, SEEN);
        meeting.word = game.returners.read(returner, WORD);
    }

    private void bringSettings() {
        meeting.coins = game.coins;
        meeting.times = game.times;
        meeting.z = game.z;
    }

    private void bringPastOf(int returner) {
        meeting.everCame = game.pairs.sumWhere(TO, returner, CAME);
        meeting.everBack = game.pairs.sumWhere(TO, returner, BACK);
    }

    private void bringLastOf(int sender, int returner) {
        meeting.lastBack = NOT_YET;
        for (int i = game.pairs.size - 1; i >= 0; i--) {
            if (game.pairs.read(i, BY) == sender && game.pairs.read(i, TO) == returner) {
                meeting.lastBack = game.pairs.read(i, BACK);
                return;
            }
        }
    }

    private int playAndWriteDown(int sender, int returner, boolean seen) {
        bring(sender, returner);
        meeting.play(seen);
        game.z = meeting.z;
        int i = game.pairs.open();
        game.pairs.write(i, BY, sender);
        game.pairs.write(i, TO, returner);
        game.pairs.write(i, SENT, meeting.sent);
        game.pairs.write(i, CAME, meeting.came);
        game.pairs.write(i, BACK, meeting.lastBack);
        game.pairs.write(i, WATCHED, seen ? 1 : 0);
        return meeting.sent;
    }

    private int howUnlike(int a, int b, int returner, int times) {
        bring(a, returner);
        meeting.times = times;
        int ofOne = meeting.wouldSend();
        bring(b, returner);
        meeting.times = times;
        return Math.abs(ofOne - meeting.wouldSend());
    }

    /** The place of the first statement that can't be carried out behind those ahead of it, or -1. */
    private int placeOfUntold(Table statements) {
        int senders = game.senders.size;
        int returners = game.returners.size;
        for (int i = 0; i < statements.size; i++) {
            int letter = statements.read(i, LETTER);
            boolean asTold;
            if (letter == 's') {
                asTold = senders < MOST_SENDERS && isSenderAsTold(statements, i);
                senders++;
            } else if (letter == 'm' || letter == 'x') {
                asTold = returners < MOST_RETURNERS && isReturnerAsTold(statements, i);
                returners++;
            } else {
                int most = letter == 'c' ? MOST_COINS : MOST_TIMES;
                int number = statements.read(i, FIRST);
                asTold = game.pairs.size == 0 && number >= 1 && number <= most;
            }
            if (!asTold) {
                return statements.read(i, PLACE);
            }
        }
        return -1;
    }

    private static boolean isSenderAsTold(Table statements, int i) {
        return statements.read(i, FIRST) <= FEARED
            && statements.read(i, SECOND) <= MOST_FIGURE
            && statements.read(i, THIRD) <= HUNDRED;
    }

    private static boolean isReturnerAsTold(Table statements, int i) {
        return statements.read(i, FIRST) <= HUNDRED
            && statements.read(i, SECOND) <= HUNDRED
            && statements.read(i, THIRD) <= HUNDRED
            && statements.read(i, FOURTH) <= HUNDRED;
    }

    private void carryOut(Table statements, int i) {
        int letter = statements.read(i, LETTER);
        if (letter == 's') {
            int sender = game.senders.open();
            game.senders.write(sender, KIND, statements.read(i, FIRST));
            game.senders.write(sender, FIGURE, statements.read(i, SECOND));
            game.senders.write(sender, HOLDS, statements.read(i, THIRD));
        } else if (letter == 'c') {
            game.coins = statements.read(i, FIRST);
        } else if (letter == 't') {
            game.times = statements.read(i, FIRST);
        } else {
            int returner = game.returners.open();
            game.returners.write(returner, BOX, letter == 'x' ? 1 : 0);
            game.returners.write(returner, SHARE, statements.read(i, FIRST));
            game.returners.write(returner, LEAST, statements.read(i, SECOND));
            game.returners.write(returner, SEEN, statements.read(i, THIRD));
            game.returners.write(returner, WORD, statements.read(i, FOURTH));
        }
    }

    /** Rows of numbers, made once and used again; what isn't there reads as 0 and takes nothing. */
    private static final class Table {
        private final int most;
        private final int columns;
        private final int[] cells;
        private int size = 0;

        private Table(int most, int columns) {
            this.most = most;
            this.columns = columns;
            this.cells = new int[Math.max(0, most * columns)];
        }

        private boolean has(int i) {
            return i >= 0 && i < size;
        }

        private int placeOf(int i, int column) {
            boolean isThere = i >= 0 && i < size && column >= 0 && column < columns;
            return isThere ? i * columns + column : -1;
        }

        private int read(int i, int column) {
            int at = placeOf(i, column);
            return at >= 0 && at < cells.length ? cells[at] : 0;
        }

        private void write(int i, int column, int value) {
            int at = placeOf(i, column);
            if (at >= 0 && at < cells.length) {
                cells[at] = value;
            }
        }

        /** A row more, all 0: its number, or -1 if there is no room. */
        private int open() {
            if (size >= most) {
                return -1;
            }
            size++;
            for (int column = 0; column < columns; column++) {
                write(size - 1, column, 0);
            }
            return size - 1;
        }

        private int sum(int column) {
            int sum = 0;
            for (int i = 0; i < size; i++) {
                sum += read(i, column);
            }
            return sum;
        }

        private int sumWhere(int key, int value, int column) {
            int sum = 0;
            for (int i = 0; i < size; i++) {
                if (read(i, key) == value) {
                    sum += read(i, column);
                }
            }
            return sum;
        }

        private int rowsWhere(int key, int value) {
            int rows = 0;
            for (int i = 0; i < size; i++) {
                if (read(i, key) == value) {
                    rows++;
                }
            }
            return rows;
        }

        private void become(Table other) {
            size = other.size;
            System.arraycopy(other.cells, 0, cells, 0, Math.min(cells.length, other.cells.length));
        }
    }

    /** All that an image takes. */
    private static final class Game {
        private int coins = 10;
        private int times = 3;
        private int z = 1;
        private final Table senders = new Table(MOST_SENDERS, SENDER_COLUMNS);
        private final Table returners = new Table(MOST_RETURNERS, RETURNER_COLUMNS);
        private final Table pairs = new Table(MOST_PAIRS, PAIR_COLUMNS);

        private void become(Game other) {
            coins = other.coins;
            times = other.times;
            z = other.z;
            senders.become(other.senders);
            returners.become(other.returners);
            pairs.become(other.pairs);
        }
    }

    /**
     * One sender before one returner. It holds copies of what matters to them, so that what is reckoned in mind
     * can change them and leaves the game as it is.
     */
    private static final class Meeting {
        private int coins;
        private int times;
        private int z;
        private int kind;
        private int figure;
        private int holds;
        private int box;
        private int share;
        private int least;
        private int seen;
        private int word;
        private int everCame;
        private int everBack;
        private int lastBack;
        private int sent;
        private int came;

        private int nameOfReturner() {
            return everCame > 0 ? HUNDRED * everBack / everCame : NOT_YET;
        }

        private int draw() {
            z = z * 1103515245 + 12345;
            return ((z & ALL_BUT_SIGN) / 65536) % HUNDRED;
        }

        private int sendNow() {
            switch (kind) {
                case RECKONED:
                    return allIfHeld(holds);
                case GIVEN:
                    return Math.min(figure / 2, coins);
                case TESTED:
                    return lastBack == NOT_YET ? 1 : Math.min(lastBack, coins);
                case NAMED:
                    return allIfHeld(everCame > 0 ? nameOfReturner() : holds);
                case LOTTED:
                    return allByLot();
                case PROMISED:
                    return allIfHeld((holds + word) / 2);
                case FEARED:
                    return box == 1 ? allByLot() : Math.min(allByLot(), coins / 2);
                case SENDING:
                default:
                    return Math.min(figure, coins);
            }
        }

        private int allIfHeld(int hundredths) {
            return times * hundredths > HUNDRED ? coins : 0;
        }

        private int allByLot() {
            return draw() < 5 * figure ? coins : 0;
        }

        private int wouldSend() {
            int zBefore = z;
            int would = sendNow();
            z = zBefore;
            return would;
        }

        private int sendBackOf(int coinsSent, boolean isSeen) {
            int arrived = coinsSent * times;
            if (arrived == 0 || arrived < least) {
                return 0;
            }
            if (box == 1) {
                return draw() < share ? arrived : 0;
            }
            int part = isSeen ? Math.min(share + seen, HUNDRED) : share;
            return arrived * part / HUNDRED;
        }

        private void play(boolean isSeen) {
            sent = sendNow();
            came = sent * times;
            lastBack = sendBackOf(sent, isSeen);
            everCame += came;
            everBack += lastBack;
        }

        /** What the returner has by n pairs one behind the other. */
        private int keptOver(int n) {
            int kept = 0;
            for (int i = 0; i < n; i++) {
                play(false);
                kept += came - lastBack;
            }
            return kept;
        }

        /** What the sender has if it sends n coins: before a box the mean, in hundredths to stay whole. */
        private int senderHasBy(int n) {
            if (box == 0) {
                return coins - n + sendBackOf(n, false);
            }
            int arrived = n * times;
            return HUNDRED * (coins - n) + (arrived < least ? 0 : share * arrived);
        }

        private void faceOneWhoKeepsAll() {
            box = 0;
            word = 0;
            // Something came and nothing went back: only so is the name 0 and not missing.
            everCame = 1;
            everBack = 0;
            lastBack = NOT_YET;
        }
    }

    /** Holds nothing, a sender as it was when it was kept, or a row. */
    private static final class Shelf {
        private int held = NOTHING;
        /** The sender's place among the senders when it was kept; a restored image leaves it as it is. */
        private int number;
        private int kind;
        private int figure;
        private int holds;
        private int sort;
        private int size;
        private final int[] elements = new int[MOST_ELEMENTS];

        private int refusalAsRow() {
            if (held == NOTHING) {
                return NOTHING_HELD;
            }
            return held == A_ROW ? 0 : OTHER_KIND;
        }

        private int refusalAsSender() {
            if (held == NOTHING) {
                return NOTHING_HELD;
            }
            return held == A_SENDER ? 0 : OTHER_KIND;
        }

        private void becomeRow(int newSort, int newSize) {
            held = A_ROW;
            sort = newSort;
            size = newSize;
            for (int i = 0; i < elements.length; i++) {
                elements[i] = 0;
            }
        }

        private boolean has(int i) {
            return i >= 0 && i < size && i < elements.length;
        }

        private boolean hasRun(int from, int n) {
            return from >= 0 && n >= 0 && n <= size - from && n <= elements.length - from;
        }

        private int read(int i) {
            return has(i) ? elements[i] : 0;
        }

        private void write(int i, int v) {
            if (!has(i)) {
                return;
            }
            if (sort == BYTES) {
                elements[i] = (byte) v;
            } else if (sort == SHORTS) {
                elements[i] = (short) v;
            } else {
                elements[i] = v;
            }
        }

        private int leastNumber() {
            if (sort == BYTES) {
                return -128;
            }
            return sort == SHORTS ? -32768 : -2147483648;
        }

        private boolean isOfSendings(int coins) {
            for (int i = 0; i < size; i++) {
                int number = read(i);
                if (number < 0 || number > coins) {
                    return false;
                }
            }
            return size > 0;
        }

        private int sum() {
            int sum = 0;
            for (int i = 0; i < size; i++) {
                sum += read(i);
            }
            return sum;
        }

        /** The sign of the i-th less the j-th; compared, as the difference of two ints may not be one. */
        private int signOf(int i, int j) {
            int one = read(i);
            int other = read(j);
            if (one == other) {
                return 0;
            }
            return one < other ? -1 : 1;
        }

        private int faithOfSender() {
            int sending = 10;
            int reckoned = sending + holds;
            int lotted = sending / 2;
            switch (kind) {
                case RECKONED:
                    return reckoned;
                case GIVEN:
                    return sending + 2 * figure;
                case TESTED:
                    return sending - figure;
                case NAMED:
                    return 2 * reckoned;
                case LOTTED:
                    return lotted;
                case PROMISED:
                    return reckoned + 7;
                case FEARED:
                    return lotted - figure;
                case SENDING:
                default:
                    return sending;
            }
        }

        /** Comes back only if the sender has no failure; the kinds that are told apart throw another class. */
        private void throwFailure() {
            if (kind == GIVEN || figure == 0) {
                return;
            }
            if (kind == NAMED) {
                throw new IllegalArgumentException("named");
            }
            if (kind == FEARED) {
                throw new UnsupportedOperationException("feared");
            }
            throw new IllegalStateException("failed");
        }
    }

    /**
     * The text of a room, read into statements. It goes on only over bytes that fit, so where it stops at a fault
     * is the place of that fault.
     */
    private static final class Script {
        private final Table statements = new Table(MOST_STATEMENTS, STATEMENT_COLUMNS);
        private int at;

        private boolean takesIn(Shelf text) {
            statements.size = 0;
            at = 0;
            boolean fits = text.size > 0;
            for (int n = 0; n < MOST_STATEMENTS && fits && at < text.size; n++) {
                fits = takesStatement(text);
            }
            return fits;
        }

        private boolean takesStatement(Shelf text) {
            int place = at;
            int letter = text.read(at);
            if (letter != 's' && letter != 'm' && letter != 'x' && letter != 'c' && letter != 't') {
                return false;
            }
            at++;
            int i = statements.open();
            statements.write(i, PLACE, place);
            statements.write(i, LETTER, letter);
            boolean fits;
            if (letter == 's') {
                fits = takesDigit(text, i) && takes(text, ' ') && takesNumber(text, i, SECOND)
                    && takes(text, ' ') && takesNumber(text, i, THIRD);
            } else if (letter == 'm' || letter == 'x') {
                fits = takesNumber(text, i, FIRST) && takesPart(text, i, 'l', SECOND)
                    && takesPart(text, i, 'v', THIRD) && takesPart(text, i, 'w', FOURTH);
            } else {
                fits = takesNumber(text, i, FIRST);
            }
            return fits && takes(text, ';');
        }

        private boolean takes(Shelf text, int sign) {
            if (text.read(at) != sign) {
                return false;
            }
            at++;
            return true;
        }

        private boolean takesDigit(Shelf text, int i) {
            int digit = digitOf(text.read(at));
            if (digit < 0) {
                return false;
            }
            at++;
            statements.write(i, FIRST, digit);
            return true;
        }

        private boolean takesPart(Shelf text, int i, int sign, int column) {
            return !takes(text, sign) || takesNumber(text, i, column);
        }

        private boolean takesNumber(Shelf text, int i, int column) {
            int number = 0;
            int digits = 0;
            // A 0 ends its number: a digit behind it is left for the next part, which does not take it.
            while (digits < 3 && digitOf(text.read(at)) >= 0 && (digits == 0 || number > 0)) {
                number = 10 * number + digitOf(text.read(at));
                digits++;
                at++;
            }
            statements.write(i, column, number);
            return digits > 0;
        }

        private static int digitOf(int sign) {
            return sign >= '0' && sign <= '9' ? sign - '0' : -1;
        }
    }
}
