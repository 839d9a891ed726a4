/** Each sentence of the document's part 4, and of promises 6, 7, 10 and 14, that names an edge. */
public final class TextEdgesTest extends Trial {
    private static final int BLANK = 26;
    private static final int ERASE = 27;
    private static final int SHIFT = 28;
    private static final int NOTHING = 31;

    public static void main(String[] args) {
        TextEdgesTest test = new TextEdgesTest();
        test.codes();
        test.layers();
        test.text();
        test.chords();
        test.king();
        test.check.end("TextEdgesTest");
    }

    private void codes() {
        check.sentence("at first the number of the KEY modulo 26 in LAYER 0, 31 in the others",
                this::codesAtFirst);
        check.sentence("LAYERS 0 to 2", this::layerRange);
        check.sentence("a CODE for each of LAYERS is 0 to 31", this::codeRange);
        check.sentence("code returns that before", this::codeBefore);
        check.sentence("CODES 0 to 25 are letters, 26 a blank, 27 takes away, 31 nothing",
                this::whatCodesType);
        check.sentence("27 takes the last sign away: of an empty TEXT none", this::eraseOfNone);
    }

    private void layers() {
        check.sentence("it gets the CODE of the LAYER of then, and keeps that till it is UP",
                this::keepsItsCode);
        check.sentence("the CODE that it got: NONE, if it is UP", this::noCodeUp);
        check.sentence("the LAYER is 2 by 30, otherwise 1 by 29, otherwise 0", this::layerOfNow);
        check.sentence("KEY by KEY it does at once what its CODE says", this::atOnce);
        check.sentence("with SHIFT as a great one", this::greatOnes);
    }

    private void text() {
        check.sentence("TEXT has at most 60 signs", this::sixtySigns);
        check.sentence("more are LOST (counted)", this::lost);
        check.sentence("a CHORD whose letter is LOST was typed", this::lostChord);
        check.sentence("27 of a full TEXT makes room for one", this::eraseOfFull);
    }

    private void chords() {
        check.sentence("CHORDS: at most 6, numbered from 0", this::sixChords);
        check.sentence("each a set of two or three KEYS", this::twoOrThree);
        check.sentence("of KEYS that there are", this::keysThatThereAre);
        check.sentence("and a letter (0 to 25)", this::letters);
        check.sentence("CHORD by CHORD, behind all EVENTS of a SCAN", this::chordByChord);
        check.sentence("within the last 8 SCANS (this one too)", this::eightScans);
        check.sentence("also without an EVENT", this::withoutEvent);
        check.sentence("if all of its KEYS are DOWN", this::allDown);
        check.sentence("the CHORD was not typed for just these EVENTS already", this::onceEach);
        check.sentence("its letter is typed (small)", this::smallWithShift);
    }

    private void king() {
        check.sentence("who asks for it is REFUSED (counted)", this::refused);
    }

    private void codesAtFirst() {
        for (int size = 0; size < 16; size++) {
            Rowscan x = new Rowscan();
            int keys = x.lay(2 + size / 4, 2 + size % 4);
            for (int i = 0; i < keys; i++) {
                int key = i;
                String of = " of KEY " + key + " of " + keys;
                due("LAYER 0" + of, key, () -> x.code(0, key, 0));
                due("LAYER 1" + of, NOTHING, () -> x.code(1, key, 0));
                due("LAYER 2" + of, NOTHING, () -> x.code(2, key, 0));
            }
            check.refuses("a KEY more than " + keys, INDEX, () -> x.code(0, keys, 0));
        }
        Rowscan x = quick(5, 5);
        tap(x, 24);
        tap(x, 0);
        due("the last KEY and the first", "ya", x::text);
    }

    private void layerRange() {
        Rowscan x = new Rowscan();
        for (int i = 0; i <= 2; i++) {
            int layer = i;
            due("LAYER " + layer, layer == 0 ? 8 : NOTHING, () -> x.code(layer, 8, layer));
        }
        for (int layer : new int[] {-1, 3, Integer.MIN_VALUE, Integer.MAX_VALUE}) {
            check.refuses("LAYER " + layer, ARGUMENT, () -> x.code(layer, 8, 0));
        }
        for (int i = 0; i <= 2; i++) {
            int layer = i;
            due("LAYER " + layer + " behind that", layer, () -> x.code(layer, 8, layer));
        }
    }

    private void codeRange() {
        Rowscan x = new Rowscan();
        due("0", NOTHING, () -> x.code(1, 0, 0));
        due("31", 0, () -> x.code(1, 0, 31));
        for (int code : new int[] {-1, 32, Integer.MIN_VALUE, Integer.MAX_VALUE}) {
            check.refuses("CODE " + code, ARGUMENT, () -> x.code(1, 0, code));
        }
        due("31 as before", 31, () -> x.code(1, 0, 0));
    }

    private void codeBefore() {
        Rowscan x = new Rowscan();
        for (int i = 0; i <= 31; i++) {
            int code = i;
            due("told " + code, code == 0 ? 4 : code - 1, () -> x.code(0, 4, code));
        }
        due("another KEY", 5, () -> x.code(0, 5, 0));
        due("another LAYER", NOTHING, () -> x.code(1, 4, 0));
    }

    private void whatCodesType() {
        for (int i = 0; i <= 31; i++) {
            int code = i;
            Rowscan x = quick(2, 2);
            tap(x, 1);
            tap(x, 2);
            x.code(0, 0, code);
            press(x, 0);
            String small = code < 26 ? "bc" + (char) (97 + code)
                    : code == BLANK ? "bc " : code == ERASE ? "b" : "bc";
            due("CODE " + code, small, x::text);
            due("CODE " + code + " that it got", code, () -> x.of(0, 8));
            int layer = code == 30 ? 2 : code == 29 ? 1 : 0;
            due("LAYER by " + code, layer, () -> x.board(7));
            lift(x, 0);
            due("CODE " + code + " as it is lifted", small, x::text);
            x.code(0, 3, SHIFT);
            press(x, 3);
            press(x, 0);
            String great = code < 26 ? small + (char) (65 + code)
                    : code == BLANK ? "bc  " : code == ERASE ? "" : "bc";
            due("CODE " + code + " with SHIFT", great, x::text);
        }
    }

    private void eraseOfNone() {
        Rowscan x = quick(2, 2);
        x.code(0, 3, ERASE);
        tap(x, 3);
        due("none", "", x::text);
        due("that is not LOST", 0, () -> x.board(13));
        tap(x, 0);
        tap(x, 3);
        due("the only one", "", x::text);
        tap(x, 3);
        tap(x, 1);
        due("one behind that", "b", x::text);
    }

    private void keepsItsCode() {
        Rowscan x = quick(2, 2);
        giveDiodes(x, 0, 1, 2, 3);
        x.code(0, 0, 29);
        x.code(1, 0, 30);
        x.code(1, 1, 2);
        press(x, 0);
        due("its own CODE is of LAYER 0", 29, () -> x.of(0, 8));
        press(x, 1);
        due("of LAYER 1", 2, () -> x.of(1, 8));
        x.code(1, 1, 7);
        x.code(0, 0, 31);
        due("told, but it is DOWN", 2, () -> x.of(1, 8));
        due("LAYER is kept by it", 1, () -> x.board(7));
        x.hold(1, false);
        due("lifted, but it is DOWN", 2, () -> x.of(1, 8));
        x.scan(1);
        press(x, 1);
        due("DOWN again", 7, () -> x.of(1, 8));
        lift(x, 0);
        due("without LAYER 1", 7, () -> x.of(1, 8));
        due("LAYER", 0, () -> x.board(7));
        due("TEXT", "ch", x::text);
    }

    private void noCodeUp() {
        Rowscan x = new Rowscan();
        due("at first", NONE, () -> x.of(0, 8));
        x.hold(0, true);
        x.scan(1);
        due("SEEN, but UP", NONE, () -> x.of(0, 8));
        x.scan(1);
        due("DOWN, CODE 0", 0, () -> x.of(0, 8));
        x.hold(0, false);
        x.scan(1);
        due("not SEEN, but DOWN", 0, () -> x.of(0, 8));
        x.scan(1);
        due("UP", NONE, () -> x.of(0, 8));
    }

    private void layerOfNow() {
        // all ways in which keys with 28, 29, 29, 30 and 30 are down or up
        Rowscan x = quick(5, 5);
        int[] codes = {SHIFT, 29, 29, 30, 30};
        int[] keys = {0, 6, 12, 18, 24};
        for (int i = 0; i < 5; i++) {
            for (int layer = 0; layer < 3; layer++) {
                x.code(layer, keys[i], codes[i]);
            }
        }
        due("none", 0, () -> x.board(7));
        for (int i = 0; i < 32; i++) {
            int set = i;
            for (int j = 0; j < 5; j++) {
                x.hold(keys[j], (set >> j & 1) == 1);
            }
            x.scan(1);
            int layer = set >> 3 != 0 ? 2 : (set >> 1 & 3) != 0 ? 1 : 0;
            due("with " + set, layer, () -> x.board(7));
        }
        due("no sign by them", "", x::text);
    }

    /** The layer, or SHIFT, by a key of a smaller number counts, by a greater one not yet. */
    private void atOnce() {
        String[] typed = {"ba", "Ba", "pa", "qa"};
        int[] codes = {NOTHING, SHIFT, 29, 30};
        for (int i = 0; i < 4; i++) {
            Rowscan x = quick(3, 3);
            int code = codes[i];
            x.code(1, 4, 15);
            x.code(2, 4, 16);
            x.code(0, 4, 1);
            x.code(0, 0, code);
            press(x, 0, 4);
            lift(x, 0, 4);
            x.code(0, 0, 0);
            x.code(1, 0, 17);
            x.code(2, 0, 18);
            x.code(0, 4, code);
            press(x, 0, 4);
            due("CODE " + code + " ahead of a letter and behind it", typed[i], x::text);
        }
        Rowscan x = quick(3, 3);
        x.code(0, 0, SHIFT);
        x.code(0, 8, SHIFT);
        press(x, 0);
        x.hold(0, false);
        press(x, 4);
        due("SHIFT goes UP ahead of a letter", "e", x::text);
        lift(x, 4);
        press(x, 8);
        x.hold(8, false);
        press(x, 4);
        due("SHIFT goes UP behind it", "eE", x::text);
    }

    private void greatOnes() {
        Rowscan x = quick(3, 3);
        x.code(0, 0, SHIFT);
        x.code(0, 4, 0);
        x.code(0, 8, 25);
        tap(x, 4, 8);
        press(x, 0);
        tap(x, 4, 8);
        lift(x, 0);
        tap(x, 4, 8);
        due("first and last letter", "azAZaz", x::text);
    }

    /** A board with so many signs, by KEY 0; KEY 1 types b, KEY 2 a blank, KEY 3 takes away. */
    private static Rowscan typed(int signs) {
        Rowscan x = quick(2, 2);
        x.code(0, 2, BLANK);
        x.code(0, 3, ERASE);
        for (int i = 0; i < signs; i++) {
            tap(x, 0);
        }
        return x;
    }

    private void sixtySigns() {
        Rowscan x = typed(59);
        due("59", "a".repeat(59), x::text);
        tap(x, 1);
        due("60", "a".repeat(59) + "b", x::text);
        due("none is LOST", 0, () -> x.board(13));
        tap(x, 1);
        due("one more", "a".repeat(59) + "b", x::text);
        due("is LOST", 1, () -> x.board(13));
        Rowscan y = typed(59);
        tap(y, 2);
        due("a blank as the sixtieth", "a".repeat(59) + " ", y::text);
    }

    private void lost() {
        Rowscan x = typed(60);
        int[] codes = {0, 25, BLANK, 28, 29, 30, 31};
        int[] lost = {1, 2, 3, 3, 3, 3, 3};
        for (int i = 0; i < codes.length; i++) {
            x.code(0, 1, codes[i]);
            press(x, 1);
            int want = lost[i];
            due("LOST behind CODE " + codes[i], want, () -> x.board(13));
            lift(x, 1);
        }
        due("TEXT", "a".repeat(60), x::text);
        x.lay(2, 2);
        due("LOST anew", 0, () -> x.board(13));
    }

    private void lostChord() {
        Rowscan x = typed(58);
        x.code(0, 0, NOTHING);
        x.chord(5, 23);
        x.chord(5, 24);
        press(x, 0, 2);
        due("the sixtieth and one LOST", "a".repeat(58) + " x", x::text);
        due("LOST", 1, () -> x.board(13));
        due("both were typed", 2, () -> x.board(12));
        x.scan(5);
        due("not for these EVENTS again", 2, () -> x.board(12));
        due("LOST as before", 1, () -> x.board(13));
        tap(x, 3);
        due("nor if there is room again", "a".repeat(58) + " ", x::text);
    }

    private void eraseOfFull() {
        Rowscan x = typed(61);
        tap(x, 3);
        due("59", "a".repeat(59), x::text);
        due("LOST as before", 1, () -> x.board(13));
        tap(x, 1);
        due("60 again", "a".repeat(59) + "b", x::text);
        tap(x, 1);
        due("LOST", 2, () -> x.board(13));
    }

    private void sixChords() {
        Rowscan x = new Rowscan();
        for (int i = 0; i < 6; i++) {
            int chord = i;
            due("CHORDS " + chord, chord, () -> x.board(11));
            due("chord " + chord, chord, () -> x.chord(3, 0));
        }
        check.refuses("a seventh", STATE, () -> x.chord(3, 0));
        due("CHORDS", 6, () -> x.board(11));
        check.refuses("a seventh of one KEY", ARGUMENT, () -> x.chord(1, 0));
        check.refuses("a seventh without a letter", ARGUMENT, () -> x.chord(3, 26));
        x.lay(3, 3);
        due("CHORDS anew", 0, () -> x.board(11));
        due("the first anew", 0, () -> x.chord(3, 0));
    }

    private void twoOrThree() {
        Rowscan x = new Rowscan();
        x.lay(5, 5);
        int[] wrong = {0, 1, 1 << 24, setOf(0, 1, 2, 3), setOf(21, 22, 23, 24), all(25)};
        for (int keys : wrong) {
            check.refuses(Integer.bitCount(keys) + " KEYS", ARGUMENT, () -> x.chord(keys, 0));
        }
        int[] right = {setOf(0, 1), setOf(0, 24), setOf(0, 1, 2), setOf(22, 23, 24)};
        for (int i = 0; i < right.length; i++) {
            int number = i;
            due(Integer.bitCount(right[i]) + " KEYS", number, () -> x.chord(right[number], 0));
        }
    }

    private void keysThatThereAre() {
        int[][] sizes = {{2, 2}, {3, 3}, {5, 5}};
        for (int[] size : sizes) {
            Rowscan x = new Rowscan();
            int keys = x.lay(size[0], size[1]);
            int last = 1 << keys - 1;
            due("the first and the last", 0, () -> x.chord(1 | last, 0));
            int[] wrong = {1 | last << 1, 3 | last << 1, 1 | Integer.MIN_VALUE, -1,
                3 | Integer.MIN_VALUE};
            for (int set : wrong) {
                check.refuses("chord(" + set + ") of " + keys, ARGUMENT, () -> x.chord(set, 0));
            }
            x.key(keys - 1, false, false, 0, 0);
            due("one that is not FITTED is there", 1, () -> x.chord(1 | last, 0));
        }
    }

    private void letters() {
        Rowscan x = quick(2, 2);
        x.code(0, 0, NOTHING);
        x.code(0, 3, NOTHING);
        due("0", 0, () -> x.chord(9, 0));
        due("25", 1, () -> x.chord(9, 25));
        for (int letter : new int[] {-1, 26, Integer.MIN_VALUE, Integer.MAX_VALUE}) {
            check.refuses("letter " + letter, ARGUMENT, () -> x.chord(9, letter));
        }
        due("CHORDS", 2, () -> x.board(11));
        press(x, 0, 3);
        due("the first letter and the last", "az", x::text);
    }

    private void chordByChord() {
        Rowscan x = quick(3, 3);
        x.chord(setOf(4, 8), 23);
        x.chord(setOf(0, 4, 8), 24);
        x.chord(setOf(0, 8), 25);
        x.chord(setOf(0, 8), 25);
        due("EVENTS of KEYS alone", 3, () -> {
            holdAll(x, true, 0, 4, 8);
            return x.scan(1);
        });
        due("KEYS first", "aeixyzz", x::text);
        due("typed", 4, () -> x.board(12));
    }

    private void eightScans() {
        for (int i = 1; i <= 10; i++) {
            int apart = i;
            Rowscan x = quick(3, 3);
            x.chord(setOf(0, 8), 25);
            press(x, 0);
            if (apart > 1) {
                x.scan(apart - 1);
            }
            press(x, 8);
            boolean isIn = apart <= 7;
            due("two apart by " + apart, isIn ? "aiz" : "ai", x::text);
            Rowscan y = quick(3, 3);
            y.chord(setOf(0, 4, 8), 25);
            press(y, 8);
            if (apart > 1) {
                y.scan(apart - 1);
            }
            press(y, 0, 4);
            due("three apart by " + apart, isIn ? "iaez" : "iae", y::text);
        }
    }

    private void withoutEvent() {
        for (int i = 0; i <= 9; i++) {
            int later = i;
            Rowscan x = quick(3, 3);
            press(x, 0, 8);
            if (later > 0) {
                x.scan(later);
            }
            x.chord(setOf(0, 8), 25);
            due("told " + later + " SCANS later", 0, () -> x.scan(1));
            due("typed by " + (later + 1), later + 1 <= 7 ? "aiz" : "ai", x::text);
            due("how often by " + (later + 1), later + 1 <= 7 ? 1 : 0, () -> x.board(12));
        }
    }

    private void allDown() {
        Rowscan x = quick(3, 3);
        x.chord(setOf(0, 4, 8), 25);
        press(x, 0, 4);
        due("two of three", "ae", x::text);
        x.hold(4, false);
        press(x, 8);
        due("one goes UP at the SCAN of the third", "aei", x::text);
        due("none was typed", 0, () -> x.board(12));
        press(x, 4);
        due("all three", "aeiez", x::text);
        Rowscan y = quick(3, 3);
        y.chord(setOf(0, 8), 25);
        press(y, 0);
        y.patience(3, false);
        y.hold(0, false);
        y.scan(1);
        y.patience(2, false);
        // 8 goes down as 0 goes up
        y.hold(8, true);
        due("one more goes UP first", 1, () -> y.scan(1));
        due("and so none", 1, () -> y.scan(1));
        due("TEXT", "ai", y::text);
        Rowscan z = quick(3, 3);
        z.chord(setOf(0, 8), 25);
        z.patience(2, false);
        z.hold(0, true);
        z.scan(1);
        z.hold(8, true);
        z.scan(1);
        z.hold(0, false);
        due("8 goes DOWN, 0 is lifted but DOWN", 1, () -> z.scan(1));
        due("TEXT with it", "aiz", z::text);
    }

    private void onceEach() {
        Rowscan x = quick(3, 3);
        x.code(0, 0, NOTHING);
        x.code(0, 4, NOTHING);
        x.code(0, 8, NOTHING);
        x.chord(setOf(0, 4, 8), 25);
        press(x, 0, 4, 8);
        x.scan(6);
        due("once", "z", x::text);
        lift(x, 4);
        due("not as one goes UP", "z", x::text);
        press(x, 4);
        due("too late for the other two", "z", x::text);
        lift(x, 0, 4, 8);
        press(x, 0, 4, 8);
        due("for new ones of all", "zz", x::text);
        int[] keys = {0, 4, 8};
        for (int key : keys) {
            lift(x, key);
            press(x, key);
        }
        due("for a new one of each", "zzzzz", x::text);
        due("typed", 5, () -> x.board(12));
        x.chord(setOf(0, 4, 8), 24);
        x.scan(1);
        due("another CHORD for the same ones", "zzzzzy", x::text);
    }

    private void smallWithShift() {
        Rowscan x = quick(3, 3);
        x.code(0, 0, SHIFT);
        x.chord(setOf(4, 8), 25);
        x.chord(setOf(0, 4), 24);
        press(x, 0);
        press(x, 4, 8);
        due("with SHIFT", "EIzy", x::text);
    }

    private void refused() {
        Rowscan x = new Rowscan();
        due("none at first", 0, () -> x.board(14));
        for (int i = 1; i <= 3; i++) {
            int many = i;
            due("with this " + many, many, x::call);
        }
        x.lay(5, 5);
        due("a new board", 3, () -> x.board(14));
        due("ever", 4, x::call);
        due("of another object", 1, () -> new Rowscan().call());
        alike("a call more changes nothing else", y -> {
            y.lay(2, 2);
            y.call();
            press(y, 0);
        }, y -> {
            y.lay(2, 2);
            press(y, 0);
            y.call();
        });
    }
}
