/** Each sentence of the document's parts 1 and 2, and of promises 17 to 24, that names an edge. */
public final class BoardEdgesTest extends Trial {
    /** Nine keys that lead from row 0 to column 4, by turns along a row and along a column. */
    private static final int[] STAIRS = {0, 5, 6, 11, 12, 17, 18, 23, 24};
    private static final int STAIRS_GHOST = 4;
    /** The same from row 4 to column 0. */
    private static final int[] STAIRS_UP = {24, 19, 18, 13, 12, 7, 6, 1, 0};
    private static final int STAIRS_UP_GHOST = 20;

    public static void main(String[] args) {
        BoardEdgesTest test = new BoardEdgesTest();
        test.first();
        test.board();
        test.seen();
        test.clear();
        test.wouldBe();
        test.sums();
        test.check.end("BoardEdgesTest");
    }

    private void first() {
        check.sentence("An object is used for at most 512 calls after it has been made",
                this::lastCall);
        check.sentence("NONE is -1", this::none);
        check.sentence("LUCK is 23 at first; to DRAW: (61 * LUCK + 35) modulo 128",
                this::allLuck);
        check.sentence("Creates a board of 3 rows and 3 columns", this::newBoard);
    }

    private void board() {
        check.sentence("ROWS and COLUMNS are 2 to 5 each (3 and 3 at first)", this::sizes);
        check.sentence("The KEY of a row and a column is row * COLUMNS + column; numbered from 0",
                this::keyNumbers);
        check.sentence("KEYS: all are FITTED at first, no DIODE, BOUNCE 0, STUCK 0",
                this::keysAtFirst);
        check.sentence("BOUNCE is 0 to 5", this::bounces);
        check.sentence("STUCK: 0 not, 1 open for good, 2 closed for good", this::stuck);
        check.sentence("The LINES 0 to ROWS - 1 are the rows, behind them come the columns",
                this::lines);
        check.sentence("lay: all is as at first", this::laidAnew);
        check.sentence("lay: what was typed and when is forgotten", this::laidAndTyped);
        check.sentence("lay: but LUCK and how many were REFUSED", this::laidButLuck);
        check.sentence("key returns how many KEYS are FITTED then: none to all",
                this::manyFitted);
        check.sentence("line returns how many are BROKEN then: none to all", this::manyBroken);
    }

    private void seen() {
        check.sentence("A row REACHES a column, if none of both LINES is BROKEN",
                this::brokenForth);
        check.sentence("one comes back by a KEY that has no DIODE", this::diodeBack);
        check.sentence("and so on, in any number of steps", this::anySteps);
        check.sentence("a KEY that is FITTED is SEEN: no other one is", this::fittedSeen);
        check.sentence("A GHOST is SEEN, and not CLOSED", this::ghostNotClosed);
    }

    private void clear() {
        check.sentence("CLEAR: each FITTED KEY is not SEEN as all other ones are CLOSED",
                this::clearOrNot);
        check.sentence("CLEAR of an empty board", this::emptyBoard);
        check.sentence("whether KEYS are STUCK does not matter for CLEAR, LEAST and EXACT",
                this::stuckDoesNotMatter);
        check.sentence("BROKEN LINES do", this::brokenMatters);
        check.sentence("LEAST: the fewest KEYS that, CLOSED alone, show a GHOST", this::least);
        check.sentence("LEAST: NONE, if the BOARD is CLEAR", this::leastNone);
        check.sentence("EXACT: of none, and of all", this::exactEnds);
    }

    private void wouldBe() {
        check.sentence("closed is a set of KEYS that there are", this::setsThatThereAre);
        check.sentence("unclear: how many KEYS (1 to 4)", this::unclearMany);
        check.sentence("unclear: of less FITTED KEYS than so many", this::unclearFew);
        check.sentence("wouldHelp: LEAST, if that KEY had a DIODE", this::wouldHelp);
        check.sentence("bestDiode: of several as good the smallest number is taken",
                this::smallestOfBest);
        check.sentence("bestDiode: NONE without such a KEY", this::noBestDiode);
        check.sentence("wouldGhost: 0, if it is not FITTED", this::wouldGhostNotFitted);
        check.sentence("wouldGhost: ahead of the first scan none is CLOSED besides",
                this::wouldGhostFirst);
        check.sentence("wouldGhost: CLOSED besides those that were, also if it was among them",
                this::wouldGhostAlready);
    }

    private void sums() {
        check.sentence("isSound, on every size, empty and full", this::soundAtTheEnds);
        check.sentence("d starts with 6553, and wraps around as a 64-bit integer",
                this::digestWraps);
        check.sentence("digest: sign by sign of TEXT, none to sixty", this::digestOfText);
        check.sentence("digest: 64 times lag(), cut to a whole number", this::digestOfLag);
    }

    private void lastCall() {
        Rowscan x = quick(3, 3);
        for (int i = 2; i < 510; i += 2) {
            x.hold(0, i % 4 == 2);
            x.scan(1);
        }
        due("call 511, EVENTS", 254, () -> x.board(3));
        due("call 512", "a".repeat(60), x::text);
        Rowscan y = new Rowscan();
        for (int i = 1; i < 512; i++) {
            y.call();
        }
        due("call 512 of another one", 512, y::call);
    }

    private void none() {
        Rowscan x = new Rowscan();
        giveDiodes(x, 0, 1, 2, 3, 4, 5, 6, 7, 8);
        due("LEAST", -1, () -> x.board(9));
        due("the CODE of a KEY that is UP", -1, () -> x.of(0, 8));
        due("wouldHelp", -1, () -> x.wouldHelp(0));
        due("bestDiode", -1, x::bestDiode);
    }

    /** 128 draws of one key come by each number from 0 to 127 once, and to 23 again. */
    private void allLuck() {
        Rowscan x = new Rowscan();
        x.key(0, true, false, 5, 0);
        due("at first", 23, () -> x.board(4));
        int luck = 23;
        for (int draw = 0; draw < 128; draw++) {
            if (draw % 5 == 0) {
                x.hold(0, draw % 2 == 0);
            }
            luck = (61 * luck + 35) % 128;
            x.scan(1);
            due("draw " + draw, luck, () -> x.board(4));
            due("CLOSED at draw " + draw, luck % 2, () -> x.set(0));
        }
        due("all around", 23, () -> x.board(4));
    }

    private void newBoard() {
        Rowscan x = new Rowscan();
        due("ROWS", 3, () -> x.board(0));
        due("COLUMNS", 3, () -> x.board(1));
        due("KEYS", 511, () -> x.set(5));
        alike("as a board laid so", y -> y.lay(3, 3), y -> { });
    }

    private void sizes() {
        for (int rows = 1; rows <= 6; rows++) {
            for (int columns = 1; columns <= 6; columns++) {
                oneSize(rows, columns);
            }
        }
    }

    private void oneSize(int rows, int columns) {
        String size = rows + " by " + columns;
        Rowscan x = new Rowscan();
        if (rows == 1 || rows == 6 || columns == 1 || columns == 6) {
            check.refuses(size, ARGUMENT, () -> x.lay(rows, columns));
            due(size + ", KEYS", 511, () -> x.set(5));
            return;
        }
        due(size, rows * columns, () -> x.lay(rows, columns));
        due(size + ", ROWS", rows, () -> x.board(0));
        due(size + ", COLUMNS", columns, () -> x.board(1));
        due(size + ", KEYS", all(rows * columns), () -> x.set(5));
        due(size + ", the last KEY", 1, () -> x.of(rows * columns - 1, 0));
        check.refuses(size + ", a KEY more", INDEX, () -> x.of(rows * columns, 0));
        due(size + ", the last row", ".".repeat(columns), () -> x.picture(rows - 1));
        check.refuses(size + ", a row more", INDEX, () -> x.picture(rows));
    }

    private void keyNumbers() {
        for (int size = 0; size < 16; size++) {
            int rows = 2 + size / 4;
            int columns = 2 + size % 4;
            Rowscan x = quick(rows, columns);
            for (int row = 0; row < rows; row++) {
                x.line(row, true);
                int without = all(columns) << row * columns;
                due("row " + row + " of " + rows + " by " + columns,
                        all(rows * columns) & ~without, () -> x.seen(all(rows * columns)));
                x.line(row, false);
            }
            for (int column = 0; column < columns; column++) {
                x.line(rows + column, true);
                int without = 0;
                for (int row = 0; row < rows; row++) {
                    without += 1 << row * columns + column;
                }
                int rest = all(rows * columns) - without;
                due("column " + column + " of " + rows + " by " + columns, rest,
                        () -> x.seen(all(rows * columns)));
                x.line(rows + column, false);
            }
        }
    }

    private void keysAtFirst() {
        Rowscan x = new Rowscan();
        x.lay(5, 5);
        for (int i = 0; i < 25; i++) {
            int key = i;
            due("FITTED " + key, 1, () -> x.of(key, 0));
            due("DIODE " + key, 0, () -> x.of(key, 1));
            due("BOUNCE " + key, 0, () -> x.of(key, 2));
            due("STUCK " + key, 0, () -> x.of(key, 3));
        }
    }

    private void bounces() {
        Rowscan x = new Rowscan();
        for (int i = 0; i <= 5; i++) {
            int bounce = i;
            due("bounce " + bounce, 9, () -> x.key(8, true, false, bounce, 0));
            due("BOUNCE " + bounce, bounce, () -> x.of(8, 2));
        }
        check.refuses("bounce 6", ARGUMENT, () -> x.key(8, true, false, 6, 0));
        check.refuses("bounce -1", ARGUMENT, () -> x.key(8, true, false, -1, 0));
        due("BOUNCE as before", 5, () -> x.of(8, 2));
    }

    private void stuck() {
        Rowscan x = new Rowscan();
        int[] closedHeld = {1, 0, 1};
        int[] closedLifted = {0, 0, 1};
        for (int i = 0; i <= 2; i++) {
            int stuck = i;
            due("stuck " + stuck, 9, () -> x.key(0, true, false, 0, stuck));
            due("STUCK " + stuck, stuck, () -> x.of(0, 3));
            press(x, 0);
            due("HELD, STUCK " + stuck, closedHeld[stuck], () -> x.set(0));
            lift(x, 0);
            due("lifted, STUCK " + stuck, closedLifted[stuck], () -> x.set(0));
        }
        check.refuses("stuck 3", ARGUMENT, () -> x.key(0, true, false, 0, 3));
        check.refuses("stuck -1", ARGUMENT, () -> x.key(0, true, false, 0, -1));
        due("STUCK as before", 2, () -> x.of(0, 3));
    }

    private void lines() {
        Rowscan x = new Rowscan();
        x.lay(2, 5);
        int[] without = {0b1111100000, 0b0000011111, 0b1111011110, 0b1110111101, 0b1101111011,
            0b1011110111, 0b0111101111};
        for (int i = 0; i < 7; i++) {
            int line = i;
            due("line " + line, 1, () -> x.line(line, true));
            due("without line " + line, without[line], () -> x.seen(1023));
            due("line " + line + " mended", 0, () -> x.line(line, false));
        }
        check.refuses("line -1", INDEX, () -> x.line(-1, true));
        check.refuses("line 7", INDEX, () -> x.line(7, true));
        due("BROKEN", 0, () -> x.board(10));
        x.lay(5, 5);
        due("line 9 of 5 by 5", 1, () -> x.line(9, true));
        check.refuses("line 10 of 5 by 5", INDEX, () -> x.line(10, true));
    }

    /** A mess that leaves LUCK alone. */
    private static void mess(Rowscan x, int rows, int columns) {
        x.lay(rows, columns);
        x.patience(1, true);
        x.key(1, true, true, 0, 2);
        x.key(2, false, true, 5, 1);
        x.line(1, true);
        x.line(rows, true);
        for (int layer = 0; layer < 3; layer++) {
            x.code(layer, 0, 26);
            x.code(layer, 3, 28 + layer);
        }
        x.code(0, 1, 20);
        for (int i = 0; i < 6; i++) {
            x.chord(11, i);
        }
        x.line(1, false);
        x.line(rows, false);
        press(x, 3);
        press(x, 0);
        x.patience(1, false);
        for (int i = 0; i < 61; i++) {
            lift(x, 0);
            press(x, 0);
        }
        x.patience(6, true);
        lift(x, 0);
        x.line(1, true);
    }

    private void laidAnew() {
        alike("behind a mess", x -> { }, x -> {
            mess(x, 3, 3);
            x.lay(3, 3);
        });
        alike("behind a mess on a greater board", x -> { }, x -> {
            mess(x, 5, 5);
            x.lay(3, 3);
        });
        alike("greater than the mess", x -> x.lay(4, 3), x -> {
            mess(x, 2, 2);
            x.lay(4, 3);
        });
        alike("behind bounces", x -> {
            x.key(0, true, false, 3, 0);
            x.hold(0, true);
            x.scan(3);
            x.lay(3, 3);
        }, x -> {
            x.lay(5, 5);
            for (int key = 22; key < 25; key++) {
                x.key(key, true, false, 5, 0);
                x.key(key - 20, true, false, 5, 0);
            }
            press(x, 22, 23, 24);
            holdAll(x, true, 2, 3, 4);
            x.lay(3, 3);
        });
    }

    /** The same at the same scans again, so that nothing of it is taken for what was before. */
    private void laidAndTyped() {
        Rowscan x = new Rowscan();
        for (int i = 0; i < 2; i++) {
            String round = i == 0 ? "first " : "anew ";
            x.patience(1, false);
            for (int letter = 20; letter < 26; letter++) {
                x.chord(letter % 2 == 0 ? setOf(0, 4, 8) : setOf(0, 8), letter);
            }
            due(round + "LAG of none", 0, () -> x.of(8, 9));
            x.hold(8, true);
            due(round + "LAG as none was since", 0, () -> x.of(8, 9));
            x.scan(5);
            press(x, 0, 4);
            due(round + "TEXT", "iaeuvwxyz", x::text);
            due(round + "CHORDS typed", 6, () -> x.board(12));
            due(round + "LAG", 1, () -> x.of(8, 9));
            x.hold(8, false);
            x.scan(5);
            due(round + "EVENTS", 4, () -> x.board(3));
            x.lay(3, 3);
        }
    }

    private void laidButLuck() {
        Rowscan x = new Rowscan();
        x.lay(2, 2);
        due("LUCK without a draw", 23, () -> x.board(4));
        due("REFUSED without a call", 0, () -> x.board(14));
        x.key(0, true, false, 2, 0);
        x.hold(0, true);
        x.scan(3);
        x.call();
        x.lay(2, 2);
        due("LUCK behind two draws", luckAfter(2), () -> x.board(4));
        due("REFUSED", 1, () -> x.board(14));
        due("REFUSED, with this", 2, x::call);
    }

    private void manyFitted() {
        Rowscan x = new Rowscan();
        x.lay(5, 5);
        due("all", 25, () -> x.key(24, true, true, 0, 0));
        for (int i = 24; i >= 0; i--) {
            int key = i;
            due("without " + key, key, () -> x.key(key, false, false, 0, 0));
        }
        due("none", 0, () -> x.key(0, false, false, 0, 0));
        due("set of none", 0, () -> x.set(5));
        due("one", 1, () -> x.key(24, true, false, 0, 0));
        due("set of one", 1 << 24, () -> x.set(5));
    }

    private void manyBroken() {
        Rowscan x = new Rowscan();
        x.lay(5, 5);
        due("none", 0, () -> x.line(0, false));
        for (int i = 0; i < 10; i++) {
            int line = i;
            due("line " + line, line + 1, () -> x.line(line, true));
        }
        due("all, again", 10, () -> x.line(9, true));
        due("told", 10, () -> x.board(10));
        due("one less", 9, () -> x.line(9, false));
    }

    private void brokenForth() {
        Rowscan x = new Rowscan();
        due("none is BROKEN", 16, () -> x.seen(16));
        for (int i = 0; i < 6; i++) {
            int line = i;
            x.line(line, true);
            boolean isItsOwn = line == 1 || line == 4;
            due("line " + line + " is BROKEN", isItsOwn ? 0 : 16, () -> x.seen(16));
            x.line(line, false);
        }
        x.line(1, true);
        x.line(4, true);
        due("both", 0, () -> x.seen(16));
    }

    private void diodeBack() {
        Rowscan x = new Rowscan();
        due("without a DIODE", 0b11011, () -> x.seen(0b01011));
        x.key(0, true, true, 0, 0);
        due("back by a DIODE", 0b01011, () -> x.seen(0b01011));
        x.key(0, true, false, 0, 0);
        giveDiodes(x, 1, 3, 4);
        due("the other three have DIODES", 0b11011, () -> x.seen(0b01011));
        x.key(0, true, true, 0, 0);
        due("all four have DIODES", 0b01011, () -> x.seen(0b01011));
    }

    private void anySteps() {
        goByStairs("down", STAIRS, STAIRS_GHOST);
        goByStairs("up", STAIRS_UP, STAIRS_UP_GHOST);
    }

    private void goByStairs(String way, int[] stairs, int ghost) {
        Rowscan x = new Rowscan();
        x.lay(5, 5);
        fitOnly(x, stairs);
        x.key(ghost, true, false, 0, 0);
        int closed = setOf(stairs);
        due(way + ", nine KEYS", closed | 1 << ghost, () -> x.seen(closed));
        for (int key : stairs) {
            due(way + ", without " + key, closed & ~(1 << key),
                    () -> x.seen(closed & ~(1 << key)));
        }
        for (int i = 0; i < stairs.length; i++) {
            x.key(stairs[i], true, true, 0, 0);
            boolean isSeen = i % 2 == 0;
            due(way + ", a DIODE on " + stairs[i], isSeen ? 1 << ghost : 0,
                    () -> x.seen(closed) & 1 << ghost);
            x.key(stairs[i], true, false, 0, 0);
        }
        for (int line = 0; line < 10; line++) {
            x.line(line, true);
            due(way + ", without line " + line, 0, () -> x.seen(closed) & 1 << ghost);
            x.line(line, false);
        }
        due(way + ", all is well again", closed | 1 << ghost, () -> x.seen(closed));
    }

    private void fittedSeen() {
        Rowscan x = new Rowscan();
        due("FITTED", 0b11011, () -> x.seen(0b01011));
        x.key(4, false, false, 0, 0);
        due("its row reaches its column, but it is not FITTED", 0b01011, () -> x.seen(0b01011));
        due("nor if it is among the CLOSED ones", 0b01011, () -> x.seen(0b11011));
        x.key(0, false, false, 0, 0);
        due("one does not come by it", 0b01010, () -> x.seen(0b01011));
    }

    private void ghostNotClosed() {
        Rowscan x = quick(2, 2);
        press(x, 0, 1, 2);
        due("three corners", 8, () -> x.set(2));
        press(x, 3);
        due("four corners", 0, () -> x.set(2));
        due("CLOSED", 15, () -> x.set(0));
        x.line(0, true);
        x.scan(1);
        due("CLOSED and not SEEN is none", 0, () -> x.set(2));
        due("SEEN", 12, () -> x.set(1));
    }

    private void clearOrNot() {
        Rowscan x = new Rowscan();
        x.lay(2, 2);
        due("four", 0, () -> x.board(8));
        giveDiodes(x, 0, 1, 2, 3);
        due("four DIODES", 1, () -> x.board(8));
        for (int key = 0; key < 4; key++) {
            x.key(key, true, false, 0, 0);
            due("all but " + key + " have DIODES", 0, () -> x.board(8));
            due("LEAST, all but " + key, 3, () -> x.board(9));
            x.key(key, false, false, 0, 0);
            due("all but " + key + " are FITTED", 1, () -> x.board(8));
            due("LEAST of three KEYS", NONE, () -> x.board(9));
            x.key(key, true, true, 0, 0);
        }
        // of the ten keys of a ring one goes back by every second one
        x.lay(5, 5);
        fitOnly(x, STAIRS);
        due("nine KEYS of a ring", 1, () -> x.board(8));
        x.key(STAIRS_GHOST, true, false, 0, 0);
        due("ten KEYS of a ring", 0, () -> x.board(8));
        giveDiodes(x, 0, 5, 6);
        due("a ring with three DIODES", 0, () -> x.board(8));
        giveDiodes(x, 11);
        due("a ring with four DIODES, two of each kind", 1, () -> x.board(8));
    }

    private void emptyBoard() {
        Rowscan x = new Rowscan();
        fitOnly(x);
        due("CLEAR", 1, () -> x.board(8));
        due("LEAST", NONE, () -> x.board(9));
        due("SEEN", 0, () -> x.seen(511));
        due("EXACT", true, () -> x.exact(511));
        for (int i = 1; i <= 4; i++) {
            int many = i;
            due("sets of " + many, 0, () -> x.unclear(many));
        }
        due("best DIODE", NONE, x::bestDiode);
        due("sound", true, x::isSound);
        due("SCANS", 0, () -> x.scan(50));
        due("CLOSED", 0, () -> x.set(0));
        due("picture", "   ", () -> x.picture(2));
    }

    private void stuckDoesNotMatter() {
        for (int stuck = 0; stuck <= 2; stuck++) {
            Rowscan x = new Rowscan();
            x.lay(2, 2);
            for (int key = 0; key < 4; key++) {
                x.key(key, true, false, 0, stuck);
            }
            String when = "STUCK " + stuck + ", ";
            due(when + "CLEAR", 0, () -> x.board(8));
            due(when + "LEAST", 3, () -> x.board(9));
            due(when + "EXACT of three", false, () -> x.exact(7));
            due(when + "EXACT of none", true, () -> x.exact(0));
            due(when + "sets of three", 4, () -> x.unclear(3));
            due(when + "wouldHelp", 3, () -> x.wouldHelp(0));
            due(when + "SEEN", 15, () -> x.seen(7));
            due(when + "SEEN of none", 0, () -> x.seen(0));
        }
    }

    private void brokenMatters() {
        Rowscan x = new Rowscan();
        x.lay(2, 2);
        for (int line = 0; line < 4; line++) {
            x.line(line, true);
            String when = "line " + line + ", ";
            due(when + "CLEAR", 1, () -> x.board(8));
            due(when + "LEAST", NONE, () -> x.board(9));
            due(when + "EXACT", true, () -> x.exact(7));
            x.line(line, false);
        }
        due("mended, CLEAR", 0, () -> x.board(8));
        due("mended, LEAST", 3, () -> x.board(9));
        due("mended, EXACT", false, () -> x.exact(7));
        x.lay(2, 3);
        x.line(4, true);
        due("a rectangle beside the BROKEN LINE", 3, () -> x.board(9));
        x.line(3, true);
        due("none beside both", NONE, () -> x.board(9));
    }

    /** Rings through two to five rows and columns: all their keys but one show that one. */
    private void least() {
        for (int i = 2; i <= 5; i++) {
            int lines = i;
            Rowscan x = new Rowscan();
            x.lay(5, 5);
            fitOnly(x);
            for (int line = 0; line < lines; line++) {
                x.key(line * 5 + line, true, false, 0, 0);
                x.key(line * 5 + (line + 1) % lines, true, false, 0, 0);
            }
            due("a ring through " + lines, 2 * lines - 1, () -> x.board(9));
            due("not CLEAR through " + lines, 0, () -> x.board(8));
            int ring = x.set(5);
            due("less by one", true, () -> x.exact(ring & ~1 & ~(1 << 6)));
            due("so many", false, () -> x.exact(ring & ~1));
        }
        Rowscan x = new Rowscan();
        fitOnly(x, 0, 1, 4, 5, 8, 6);
        due("a ring of six", 5, () -> x.board(9));
        x.key(3, true, false, 0, 0);
        due("with a rectangle in it", 3, () -> x.board(9));
    }

    private void leastNone() {
        Rowscan x = new Rowscan();
        x.lay(5, 5);
        fitOnly(x, STAIRS);
        x.key(STAIRS_GHOST, true, false, 0, 0);
        giveDiodes(x, 0, 5, 6);
        due("not CLEAR", 9, () -> x.board(9));
        giveDiodes(x, 11);
        due("CLEAR", NONE, () -> x.board(9));
    }

    private void exactEnds() {
        Rowscan x = new Rowscan();
        x.lay(5, 5);
        due("none", true, () -> x.exact(0));
        due("all", true, () -> x.exact(all(25)));
        due("all but the last", false, () -> x.exact(all(24)));
        due("all but the first", false, () -> x.exact(all(25) - 1));
        due("the last alone", true, () -> x.exact(1 << 24));
        due("one row", true, () -> x.exact(31));
        due("one row and a KEY of another", false, () -> x.exact(63));
    }

    private void setsThatThereAre() {
        int[][] sizes = {{2, 2}, {2, 3}, {3, 3}, {5, 4}, {5, 5}};
        for (int[] size : sizes) {
            Rowscan x = new Rowscan();
            int keys = x.lay(size[0], size[1]);
            String of = " of " + keys + " KEYS";
            due("no KEY" + of, 0, () -> x.seen(0));
            due("the last KEY" + of, 1 << keys - 1, () -> x.seen(1 << keys - 1));
            due("all" + of, all(keys), () -> x.seen(all(keys)));
            due("all EXACT" + of, true, () -> x.exact(all(keys)));
            for (int set : new int[] {1 << keys, -1, Integer.MIN_VALUE, Integer.MAX_VALUE}) {
                check.refuses("seen(" + set + ")" + of, ARGUMENT, () -> x.seen(set));
                check.refuses("exact(" + set + ")" + of, ARGUMENT, () -> x.exact(set));
            }
        }
    }

    private void unclearMany() {
        Rowscan x = new Rowscan();
        x.lay(2, 3);
        check.refuses("none", ARGUMENT, () -> x.unclear(0));
        due("one", 0, () -> x.unclear(1));
        due("two", 0, () -> x.unclear(2));
        due("three: one of four corners is left out, three rectangles", 12, () -> x.unclear(3));
        // of the 15 sets of four the three rectangles are EXACT; any other one has keys in both
        // rows, and a row of three and one key, or two and two with one column alike
        due("four", 12, () -> x.unclear(4));
        check.refuses("five", ARGUMENT, () -> x.unclear(5));
    }

    private void unclearFew() {
        Rowscan x = new Rowscan();
        x.lay(2, 2);
        due("four of four", 0, () -> x.unclear(4));
        due("three of four", 4, () -> x.unclear(3));
        x.key(0, false, false, 0, 0);
        due("four of three", 0, () -> x.unclear(4));
        due("three of three", 0, () -> x.unclear(3));
        fitOnly(x);
        due("one of none", 0, () -> x.unclear(1));
    }

    private void wouldHelp() {
        Rowscan x = new Rowscan();
        x.lay(5, 5);
        fitOnly(x, STAIRS);
        x.key(STAIRS_GHOST, true, false, 0, 0);
        giveDiodes(x, 0, 5, 6);
        for (int key : new int[] {11, 17, 23, STAIRS_GHOST}) {
            due("the fourth DIODE, on " + key, NONE, () -> x.wouldHelp(key));
        }
        for (int key : new int[] {12, 18, 24, 0, 5, 6}) {
            due("no help, on " + key, 9, () -> x.wouldHelp(key));
        }
        due("a KEY that is not FITTED", 9, () -> x.wouldHelp(20));
        due("it has none behind that", 0, () -> x.of(11, 1));
        check.refuses("wouldHelp(25)", INDEX, () -> x.wouldHelp(25));
        check.refuses("wouldHelp(-1)", INDEX, () -> x.wouldHelp(-1));
    }

    private void smallestOfBest() {
        Rowscan x = new Rowscan();
        x.lay(2, 2);
        for (int i = 0; i < 4; i++) {
            int key = i;
            due("the smallest without a DIODE", key, x::bestDiode);
            giveDiodes(x, key);
        }
        x.lay(3, 3);
        x.key(0, false, false, 0, 0);
        // these four are in three rectangles each, any other one is in two
        due("of 4, 5, 7 and 8", 4, x::bestDiode);
        giveDiodes(x, 4);
        due("of 5, 7 and 8", 5, x::bestDiode);
        x.lay(2, 2);
        x.line(0, true);
        due("as none helps, the first", 0, x::bestDiode);
        giveDiodes(x, 0);
        due("as none helps, the next", 1, x::bestDiode);
        x.lay(2, 2);
        x.line(1, true);
        due("as none helps, the first, on a line that is not BROKEN", 0, x::bestDiode);
    }

    private void noBestDiode() {
        Rowscan x = new Rowscan();
        x.lay(2, 2);
        giveDiodes(x, 0, 1, 2);
        due("the last one without a DIODE", 3, x::bestDiode);
        x.key(3, false, false, 0, 0);
        due("that is not FITTED", NONE, x::bestDiode);
        giveDiodes(x, 3);
        due("that has one", NONE, x::bestDiode);
    }

    private void wouldGhostNotFitted() {
        Rowscan x = quick(2, 3);
        press(x, 0, 1, 3);
        due("FITTED", 0b110000, () -> x.wouldGhost(2));
        due("of a GHOST that is there", 0, () -> x.wouldGhost(4));
        x.key(2, false, false, 0, 0);
        due("not FITTED", 0, () -> x.wouldGhost(2));
        x.key(2, true, false, 0, 2);
        due("FITTED and STUCK", 0b110000, () -> x.wouldGhost(2));
        check.refuses("wouldGhost(6)", INDEX, () -> x.wouldGhost(6));
        check.refuses("wouldGhost(-1)", INDEX, () -> x.wouldGhost(-1));
    }

    private void wouldGhostFirst() {
        Rowscan x = quick(2, 2);
        holdAll(x, true, 0, 1);
        due("ahead of it", 0, () -> x.wouldGhost(2));
        x.scan(1);
        due("behind it", 8, () -> x.wouldGhost(2));
        x.lay(2, 2);
        due("ahead of the first one anew", 0, () -> x.wouldGhost(2));
    }

    private void wouldGhostAlready() {
        Rowscan x = quick(2, 2);
        press(x, 0, 1, 2);
        for (int i = 0; i < 3; i++) {
            int key = i;
            due("the GHOST that is there, by " + key, 8, () -> x.wouldGhost(key));
        }
        due("the GHOST itself", 0, () -> x.wouldGhost(3));
        lift(x, 0, 1, 2);
        due("all are lifted", 0, () -> x.wouldGhost(0));
    }

    private void soundAtTheEnds() {
        for (int size = 0; size < 16; size++) {
            int rows = 2 + size / 4;
            int columns = 2 + size % 4;
            Rowscan x = quick(rows, columns);
            String on = "on " + rows + " by " + columns;
            due("new " + on, true, x::isSound);
            press(x, 0, 1, columns);
            x.key(0, false, false, 5, 2);
            due("with a KEY less " + on, true, x::isSound);
            x.line(rows + columns - 1, true);
            due("with a BROKEN LINE " + on, true, x::isSound);
            fitOnly(x);
            due("without a KEY " + on, true, x::isSound);
        }
        Rowscan y = quick(2, 2);
        for (int i = 0; i < 62; i++) {
            if (i > 58) {
                due("behind " + i + " signs typed", true, y::isSound);
            }
            tap(y, 0);
        }
    }

    private void digestWraps() {
        Rowscan x = new Rowscan();
        due("new", Traces.sum(new Rowscan()), x::digest);
        boolean isBelow = false;
        boolean isAbove = false;
        for (int i = 0; i < 40; i++) {
            x.call();
            long d = x.digest();
            isBelow |= d < 0;
            isAbove |= d > 0;
        }
        boolean isBoth = isBelow && isAbove;
        due("it comes out below 0 and above", true, () -> isBoth);
        Rowscan y = quick(5, 5);
        press(y, 0, 1, 5, 24);
        due("on the greatest board", Traces.sum(y), y::digest);
        Rowscan z = quick(2, 2);
        due("on the smallest board", Traces.sum(z), z::digest);
        giveDiodes(z, 0, 1);
        due("best DIODE", 2, z::bestDiode);
        due("with another best DIODE than the first", Traces.sum(z), z::digest);
        giveDiodes(z, 2, 3);
        due("without one, and CLEAR", Traces.sum(z), z::digest);
    }

    private void digestOfText() {
        for (int typed : new int[] {0, 1, 2, 59, 60, 61}) {
            Rowscan x = quick(2, 2);
            for (int i = 0; i < typed; i++) {
                tap(x, 3);
            }
            due("behind " + typed + " signs typed", Traces.sum(x), x::digest);
        }
    }

    private void digestOfLag() {
        Rowscan x = quick(2, 2);
        press(x, 0, 1);
        due("1.0", Traces.sum(x), x::digest);
        x.hold(2, true);
        x.patience(3, false);
        x.scan(3);
        // 0 and 1 have 1 each, 2 has 3, and the ghost 3 has none: the mean is 5 / 4
        due("5 / 4", Traces.sum(x), x::digest);
        x.lay(2, 3);
        x.patience(1, false);
        press(x, 0, 1);
        x.hold(2, true);
        x.patience(3, false);
        x.scan(3);
        due("5 / 3", 5.0 / 3, x::lag);
        due("64 * 5 / 3, cut", Traces.sum(x), x::digest);
    }
}
