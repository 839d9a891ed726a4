/**
 * Each sentence of the document behind "Throws": the exception comes by the first value that is not
 * allowed, does not by the last one that is, is the one that is named first where several apply,
 * and nothing has changed behind it.
 */
public final class RefusedTest extends Trial {
    private interface Use {
        Object on(Rowscan x);
    }

    /** A way to make an object, with the size of the board that it has then. */
    private static final class Setup {
        private final String name;
        private final int rows;
        private final int columns;
        private final int keys;
        private final int lines;
        private final Traces.Make make;

        private Setup(String name, int rows, int columns, Traces.Make make) {
            this.name = name;
            this.rows = rows;
            this.columns = columns;
            this.keys = rows * columns;
            this.lines = rows + columns;
            this.make = make;
        }
    }

    private static final int MOST = Integer.MAX_VALUE;
    private static final int LEAST = Integer.MIN_VALUE;

    private final Setup busy = new Setup("busy", 3, 4, RefusedTest::makeBusy);
    private final Setup full = new Setup("full", 2, 2, RefusedTest::makeFull);
    private final Setup chorded = new Setup("chorded", 2, 3, RefusedTest::makeChorded);
    private final Setup late = new Setup("late", 2, 3, RefusedTest::makeLate);
    private final Setup[] setups = {
        new Setup("new", 3, 3, x -> { }),
        new Setup("great", 5, 5, x -> x.lay(5, 5)),
        busy, full, chorded, late};

    public static void main(String[] args) {
        RefusedTest test = new RefusedTest();
        test.tellTheBoard();
        test.tellTheKeys();
        test.holdAndScan();
        test.ask();
        test.askWhatWouldBe();
        test.check.end("RefusedTest");
    }

    private static void makeBusy(Rowscan x) {
        x.lay(3, 4);
        x.patience(3, false);
        x.key(1, true, true, 4, 0);
        x.key(2, true, false, 5, 2);
        x.key(5, false, true, 2, 0);
        x.key(7, true, false, 3, 1);
        x.line(5, true);
        for (int key = 0; key < 12; key++) {
            x.code(0, key, 25 - key);
            x.code(1, key, key + 2);
            x.code(2, key, key + 4);
        }
        x.code(0, 8, 29);
        x.code(1, 11, 28);
        x.chord(setOf(0, 4), 9);
        x.chord(setOf(0, 1, 4), 10);
        x.call();
        press(x, 8);
        x.scan(4);
        press(x, 0, 1, 7);
        x.scan(3);
        x.hold(4, true);
        x.key(10, true, false, 4, 0);
        x.hold(10, true);
        x.scan(2);
        x.hold(0, false);
    }

    private static void makeFull(Rowscan x) {
        x.lay(2, 2);
        x.patience(1, false);
        for (int i = 0; i < 61; i++) {
            tap(x, 0);
        }
        for (int i = 0; i < 6; i++) {
            x.chord(i % 2 == 0 ? 9 : 7, i);
        }
        for (int key = 0; key < 4; key++) {
            x.key(key, true, key == 1, 5 - key, 0);
            x.hold(key, true);
        }
        x.scan(2);
        x.patience(6, true);
        x.code(0, 3, 27);
    }

    /** Six chords, all of which were typed just now. */
    private static void makeChorded(Rowscan x) {
        x.lay(2, 3);
        x.patience(1, false);
        for (int i = 0; i < 6; i++) {
            x.chord(i % 2 == 0 ? 3 : 7, i);
        }
        press(x, 0, 1, 2);
        x.scan(1);
    }

    private static void makeLate(Rowscan x) {
        x.lay(2, 3);
        x.patience(4, false);
        for (int i = 0; i < 39; i++) {
            x.scan(50);
        }
        x.key(4, false, false, 3, 0);
        x.hold(1, true);
        x.scan(4);
        x.hold(2, true);
        x.scan(2);
        x.chord(6, 22);
        x.code(0, 5, 30);
    }

    private void tellTheBoard() {
        check.sentence("2: IllegalArgumentException if rows or columns is not 2 to 5", this::lay);
        check.sentence("4: IndexOutOfBoundsException if there is no such LINE", this::line);
        check.sentence("5: IllegalArgumentException if patience is not 1 to 6", this::patience);
    }

    private void tellTheKeys() {
        check.sentence("3: IndexOutOfBoundsException if there is no such KEY", this::keyIndex);
        check.sentence("3: IllegalArgumentException if bounce is not 0 to 5, or stuck not 0 to 2",
                this::keyArgument);
        check.sentence("6: IndexOutOfBoundsException if there is no such KEY", this::codeIndex);
        check.sentence("6: IllegalArgumentException if layer is not 0 to 2, or code not 0 to 31",
                this::codeArgument);
        check.sentence("7: IllegalArgumentException if keys is no set of two or three KEYS",
                this::chordKeys);
        check.sentence("7: IllegalArgumentException if letter is not 0 to 25", this::chordLetter);
        check.sentence("7: IllegalStateException if there are 6, behind the other",
                this::chordState);
    }

    private void holdAndScan() {
        check.sentence("8: IndexOutOfBoundsException if there is no such KEY", this::holdIndex);
        check.sentence("8: IllegalStateException if it is not FITTED", this::holdState);
        check.sentence("9: IllegalArgumentException if scans is not 1 to 50", this::scanArgument);
        check.sentence("9: IllegalStateException if there would be more than 2000",
                this::scanState);
        check.sentence("9: of both the IllegalArgumentException, which is named first",
                this::scanFirst);
    }

    private void ask() {
        check.sentence("11: IndexOutOfBoundsException if there is no such KEY, named first",
                this::ofIndex);
        check.sentence("11: IllegalArgumentException if what is not 0 to 10", this::ofArgument);
        check.sentence("12: IllegalArgumentException if what is not 0 to 5",
                () -> whats(5, "set", (x, what) -> x.set(what)));
        check.sentence("13: IllegalArgumentException if what is not 0 to 14",
                () -> whats(14, "board", (x, what) -> x.board(what)));
        check.sentence("15: IndexOutOfBoundsException if there is no such row", this::picture);
    }

    private void askWhatWouldBe() {
        check.sentence("17: IllegalArgumentException if closed is no set of KEYS that there are",
                () -> closedSets("seen", (x, closed) -> x.seen(closed)));
        check.sentence("18: IllegalArgumentException if closed is no set of KEYS that there are",
                () -> closedSets("exact", (x, closed) -> x.exact(closed)));
        check.sentence("19: IllegalArgumentException if many is not 1 to 4", this::unclear);
        check.sentence("20: IndexOutOfBoundsException if there is no such KEY",
                () -> keyAsked("wouldHelp", (x, key) -> x.wouldHelp(key)));
        check.sentence("22: IndexOutOfBoundsException if there is no such KEY",
                () -> keyAsked("wouldGhost", (x, key) -> x.wouldGhost(key)));
    }

    private void refused(Setup setup, String what, Class<? extends RuntimeException> kind,
            Use use) {
        String call = what + " on a " + setup.name + " one";
        Rowscan x = new Rowscan();
        setup.make.on(x);
        check.refuses(call, kind, () -> use.on(x));
        alike(call, setup.make, y -> {
            setup.make.on(y);
            Check.outcome(() -> use.on(y));
        });
    }

    private void allowed(Setup setup, String what, Use use) {
        Rowscan x = new Rowscan();
        setup.make.on(x);
        due(what + " on a " + setup.name + " one throws", false,
                () -> Check.outcome(() -> use.on(x)).toString().startsWith("throws."));
    }

    private void lay() {
        int[][] wrong = {{1, 2}, {6, 5}, {2, 1}, {5, 6}, {1, 6}, {0, 3}, {3, 0}, {-2, -2},
            {LEAST, 3}, {3, LEAST}, {MOST, 3}, {3, MOST}};
        int[][] right = {{2, 2}, {5, 5}, {2, 5}, {5, 2}};
        for (Setup setup : setups) {
            for (int[] size : wrong) {
                refused(setup, "lay(" + size[0] + ", " + size[1] + ")", ARGUMENT,
                        x -> x.lay(size[0], size[1]));
            }
            for (int[] size : right) {
                allowed(setup, "lay(" + size[0] + ", " + size[1] + ")",
                        x -> x.lay(size[0], size[1]));
            }
        }
    }

    private void line() {
        for (Setup setup : setups) {
            for (int line : new int[] {-1, setup.lines, 31, 32, LEAST, MOST}) {
                refused(setup, "line(" + line + ", true)", INDEX, x -> x.line(line, true));
                refused(setup, "line(" + line + ", false)", INDEX, x -> x.line(line, false));
            }
            allowed(setup, "the first line", x -> x.line(0, true));
            allowed(setup, "the last line", x -> x.line(setup.lines - 1, true));
        }
    }

    private void patience() {
        for (Setup setup : setups) {
            for (int patience : new int[] {0, 7, -1, LEAST, MOST}) {
                refused(setup, "patience(" + patience + ", true)", ARGUMENT,
                        x -> x.patience(patience, true));
                refused(setup, "patience(" + patience + ", false)", ARGUMENT,
                        x -> x.patience(patience, false));
            }
            allowed(setup, "patience 1", x -> x.patience(1, false));
            allowed(setup, "patience 6", x -> x.patience(6, false));
        }
    }

    private static int[] noKeys(Setup setup) {
        return new int[] {-1, setup.keys, 31, 32, LEAST, MOST};
    }

    private void keyIndex() {
        for (Setup setup : setups) {
            for (int key : noKeys(setup)) {
                refused(setup, "key(" + key + ", ..)", INDEX, x -> x.key(key, false, true, 5, 2));
            }
            refused(setup, "no KEY and no BOUNCE", INDEX,
                    x -> x.key(setup.keys, true, false, 6, 0));
            refused(setup, "no KEY and no STUCK", INDEX, x -> x.key(-1, true, false, 0, 3));
            allowed(setup, "the first KEY", x -> x.key(0, false, true, 5, 2));
            allowed(setup, "the last KEY", x -> x.key(setup.keys - 1, false, true, 5, 2));
        }
    }

    private void keyArgument() {
        for (Setup setup : setups) {
            for (int i = 0; i < setup.keys; i += 3) {
                int key = i;
                for (int wrong : new int[] {-1, 6, LEAST, MOST}) {
                    refused(setup, "key(" + key + "), BOUNCE " + wrong, ARGUMENT,
                            x -> x.key(key, false, true, wrong, 1));
                }
                for (int wrong : new int[] {-1, 3, LEAST, MOST}) {
                    refused(setup, "key(" + key + "), STUCK " + wrong, ARGUMENT,
                            x -> x.key(key, false, true, 1, wrong));
                }
                refused(setup, "key(" + key + "), both", ARGUMENT,
                        x -> x.key(key, true, true, 6, 3));
                allowed(setup, "the least", x -> x.key(key, true, true, 0, 0));
                allowed(setup, "the greatest", x -> x.key(key, true, true, 5, 2));
            }
        }
    }

    private void codeIndex() {
        for (Setup setup : setups) {
            for (int key : noKeys(setup)) {
                refused(setup, "code(0, " + key + ", 1)", INDEX, x -> x.code(0, key, 1));
            }
            refused(setup, "no KEY and no LAYER", INDEX, x -> x.code(3, setup.keys, 1));
            refused(setup, "no KEY and no CODE", INDEX, x -> x.code(1, -1, 32));
            allowed(setup, "the first KEY", x -> x.code(0, 0, 1));
            allowed(setup, "the last KEY", x -> x.code(2, setup.keys - 1, 1));
        }
    }

    private void codeArgument() {
        for (Setup setup : setups) {
            for (int wrong : new int[] {-1, 3, LEAST, MOST}) {
                refused(setup, "LAYER " + wrong, ARGUMENT, x -> x.code(wrong, 0, 1));
            }
            for (int wrong : new int[] {-1, 32, LEAST, MOST}) {
                for (int i = 0; i < 3; i++) {
                    int layer = i;
                    refused(setup, "CODE " + wrong, ARGUMENT, x -> x.code(layer, 3, wrong));
                }
            }
            refused(setup, "both", ARGUMENT, x -> x.code(3, 0, 32));
            allowed(setup, "the least", x -> x.code(0, 0, 0));
            allowed(setup, "the greatest", x -> x.code(2, 0, 31));
        }
    }

    private void chordKeys() {
        for (Setup setup : setups) {
            int[] wrong = {0, 1, 1 << setup.keys - 1, 15, all(setup.keys), 1 | 1 << setup.keys,
                3 | 1 << setup.keys, 1 | LEAST, 3 | LEAST, LEAST, -1, MOST};
            for (int keys : wrong) {
                refused(setup, "chord(" + keys + ", 1)", ARGUMENT, x -> x.chord(keys, 1));
            }
            refused(setup, "no KEYS and no letter", ARGUMENT, x -> x.chord(0, 26));
            if (setup != full && setup != chorded) {
                allowed(setup, "two KEYS", x -> x.chord(1 | 1 << setup.keys - 1, 1));
                allowed(setup, "three KEYS", x -> x.chord(3 | 1 << setup.keys - 1, 1));
            }
        }
    }

    private void chordLetter() {
        for (Setup setup : setups) {
            for (int letter : new int[] {-1, 26, LEAST, MOST}) {
                refused(setup, "chord(3, " + letter + ")", ARGUMENT, x -> x.chord(3, letter));
            }
            if (setup != full && setup != chorded) {
                allowed(setup, "the first letter", x -> x.chord(3, 0));
                allowed(setup, "the last letter", x -> x.chord(3, 25));
            }
        }
    }

    private void chordState() {
        for (Setup setup : new Setup[] {full, chorded}) {
            refused(setup, "a seventh of two", STATE, x -> x.chord(3, 0));
            refused(setup, "a seventh of others", STATE, x -> x.chord(10, 7));
            refused(setup, "a seventh of three", STATE, x -> x.chord(14, 25));
            refused(setup, "a seventh of one KEY", ARGUMENT, x -> x.chord(1, 0));
            refused(setup, "a seventh of no KEYS that there are", ARGUMENT, x -> x.chord(65, 0));
            refused(setup, "a seventh with letter 26", ARGUMENT, x -> x.chord(3, 26));
            refused(setup, "a seventh with letter -1", ARGUMENT, x -> x.chord(3, -1));
        }
        allowed(busy, "the third to the sixth", x -> {
            x.chord(3, 0);
            x.chord(3, 0);
            x.chord(3, 0);
            return x.chord(3, 0);
        });
    }

    private void holdIndex() {
        for (Setup setup : setups) {
            for (int key : noKeys(setup)) {
                refused(setup, "hold(" + key + ", true)", INDEX, x -> x.hold(key, true));
                refused(setup, "hold(" + key + ", false)", INDEX, x -> x.hold(key, false));
            }
            allowed(setup, "the first KEY", x -> x.hold(0, true));
            allowed(setup, "the last KEY", x -> x.hold(setup.keys - 1, true));
        }
    }

    private void holdState() {
        refused(busy, "to hold", STATE, x -> x.hold(5, true));
        refused(busy, "to lift", STATE, x -> x.hold(5, false));
        refused(late, "to hold", STATE, x -> x.hold(4, true));
        refused(late, "to lift", STATE, x -> x.hold(4, false));
        refused(busy, "just lifted by that", STATE, x -> {
            x.key(5, false, true, 2, 0);
            return x.hold(5, true);
        });
        allowed(busy, "FITTED and STUCK open", x -> x.hold(7, false));
        allowed(busy, "FITTED on a BROKEN LINE", x -> x.hold(6, true));
    }

    private void scanArgument() {
        for (Setup setup : setups) {
            for (int scans : new int[] {0, 51, -1, 2001, LEAST, MOST}) {
                refused(setup, "scan(" + scans + ")", ARGUMENT, x -> x.scan(scans));
            }
            allowed(setup, "scan(1)", x -> x.scan(1));
            if (setup != late) {
                allowed(setup, "scan(50)", x -> x.scan(50));
            }
        }
    }

    private void scanState() {
        // 1956 went by
        refused(late, "45 more", STATE, x -> x.scan(45));
        refused(late, "50 more", STATE, x -> x.scan(50));
        allowed(late, "44 more", x -> x.scan(44));
        Setup last = new Setup("last", 2, 2, x -> {
            makeLate(x);
            x.scan(44);
        });
        refused(last, "1 more", STATE, x -> x.scan(1));
        refused(last, "50 more", STATE, x -> x.scan(50));
        allowed(last, "a board anew", x -> x.lay(2, 2) + x.scan(50));
    }

    private void scanFirst() {
        refused(late, "51 of 1956", ARGUMENT, x -> x.scan(51));
        refused(late, "the most of 1956", ARGUMENT, x -> x.scan(MOST));
        Setup last = new Setup("last", 2, 2, x -> {
            makeLate(x);
            x.scan(44);
        });
        refused(last, "51 of 2000", ARGUMENT, x -> x.scan(51));
        refused(last, "0 of 2000", ARGUMENT, x -> x.scan(0));
        refused(last, "-1 of 2000", ARGUMENT, x -> x.scan(-1));
    }

    private void ofIndex() {
        for (Setup setup : setups) {
            for (int key : noKeys(setup)) {
                refused(setup, "of(" + key + ", 0)", INDEX, x -> x.of(key, 0));
                refused(setup, "of(" + key + ", 11)", INDEX, x -> x.of(key, 11));
                refused(setup, "of(" + key + ", -1)", INDEX, x -> x.of(key, -1));
            }
            allowed(setup, "the last KEY", x -> x.of(setup.keys - 1, 10));
        }
    }

    private void ofArgument() {
        for (Setup setup : setups) {
            for (int what : new int[] {-1, 11, LEAST, MOST}) {
                refused(setup, "of(0, " + what + ")", ARGUMENT, x -> x.of(0, what));
            }
            allowed(setup, "the first", x -> x.of(0, 0));
            allowed(setup, "the last", x -> x.of(0, 10));
        }
    }

    private interface Asked {
        Object on(Rowscan x, int number);
    }

    private void whats(int last, String name, Asked asked) {
        for (Setup setup : setups) {
            for (int what : new int[] {-1, last + 1, LEAST, MOST}) {
                refused(setup, name + "(" + what + ")", ARGUMENT, x -> asked.on(x, what));
            }
            allowed(setup, name + "(0)", x -> asked.on(x, 0));
            allowed(setup, name + "(" + last + ")", x -> asked.on(x, last));
        }
    }

    private void picture() {
        for (Setup setup : setups) {
            for (int row : new int[] {-1, setup.rows, LEAST, MOST}) {
                refused(setup, "picture(" + row + ")", INDEX, x -> x.picture(row));
            }
            allowed(setup, "the first row", x -> x.picture(0));
            allowed(setup, "the last row", x -> x.picture(setup.rows - 1));
        }
    }

    private void closedSets(String name, Asked asked) {
        for (Setup setup : setups) {
            int[] wrong = {-1, 1 << setup.keys, 1 << 30, LEAST, MOST};
            for (int closed : wrong) {
                refused(setup, name + "(" + closed + ")", ARGUMENT, x -> asked.on(x, closed));
            }
            allowed(setup, name + " of none", x -> asked.on(x, 0));
            allowed(setup, name + " of all", x -> asked.on(x, all(setup.keys)));
        }
    }

    private void unclear() {
        for (Setup setup : setups) {
            for (int many : new int[] {0, 5, -1, 32, 33, LEAST, MOST}) {
                refused(setup, "unclear(" + many + ")", ARGUMENT, x -> x.unclear(many));
            }
            allowed(setup, "unclear(1)", x -> x.unclear(1));
            allowed(setup, "unclear(4)", x -> x.unclear(4));
        }
    }

    private void keyAsked(String name, Asked asked) {
        for (Setup setup : setups) {
            for (int key : noKeys(setup)) {
                refused(setup, name + "(" + key + ")", INDEX, x -> asked.on(x, key));
            }
            allowed(setup, "the first KEY", x -> asked.on(x, 0));
            allowed(setup, "the last KEY", x -> asked.on(x, setup.keys - 1));
        }
    }
}
