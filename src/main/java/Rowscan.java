/** Keys between a finger and a word: a board, what is seen of it, and what is typed on it. */
public final class Rowscan {
    private static final int NONE = -1;
    private static final int FEWEST_LINES = 2;
    private static final int MOST_LINES = 5;
    private static final int MOST_KEYS = 25;
    private static final int MOST_BOUNCE = 5;
    private static final int STUCK_OPEN = 1;
    private static final int STUCK_CLOSED = 2;
    private static final int MOST_PATIENCE = 6;
    private static final int LAYERS = 3;
    private static final int MOST_CODE = 31;
    private static final int LETTERS = 26;
    private static final int MOST_CHORDS = 6;
    private static final int MOST_CHORD_KEYS = 3;
    private static final int MOST_SCANS = 2000;
    private static final int MOST_SCANS_A_CALL = 50;
    private static final int MOST_SIGNS = 60;
    private static final int MOST_UNCLEAR = 4;
    private static final int LAST_OF = 10;
    private static final int LAST_SET = 5;
    private static final int LAST_BOARD = 14;

    private final Wiring wiring;
    private final Fingers fingers;
    private final Watch watch;
    private final Typist typist;
    private int scans;
    private int patience;
    private boolean isGuarded;
    private int closedLast;
    private int seenLast;
    private int refused;

    public Rowscan() {
        wiring = new Wiring();
        fingers = new Fingers();
        watch = new Watch();
        typist = new Typist();
        refused = 0;
        startAnew(3, 3);
    }

    private void startAnew(int rows, int columns) {
        wiring.startAnew(rows, columns);
        fingers.startAnew();
        watch.startAnew();
        typist.startAnew();
        scans = 0;
        patience = 2;
        isGuarded = false;
        closedLast = 0;
        seenLast = 0;
    }

    public int lay(int rows, int columns) throws IllegalArgumentException {
        if (!isSize(rows) || !isSize(columns)) {
            throw new IllegalArgumentException("rows and columns are 2 to 5");
        }
        startAnew(rows, columns);
        return wiring.keys;
    }

    private static boolean isSize(int lines) {
        return lines >= FEWEST_LINES && lines <= MOST_LINES;
    }

    public int key(int key, boolean isFitted, boolean hasDiode, int bounce, int stuck)
            throws IndexOutOfBoundsException, IllegalArgumentException {
        if (!wiring.hasKey(key)) {
            throw new IndexOutOfBoundsException("no such key");
        }
        if (bounce < 0 || bounce > MOST_BOUNCE || stuck < 0 || stuck > STUCK_CLOSED) {
            throw new IllegalArgumentException("bounce is 0 to 5, stuck 0 to 2");
        }
        wiring.fit(key, isFitted, hasDiode);
        fingers.bounce[key] = bounce;
        fingers.stuck[key] = stuck;
        if (!isFitted) {
            fingers.move(key, false, scans);
        }
        return Integer.bitCount(wiring.fitted);
    }

    public int line(int line, boolean isBroken) throws IndexOutOfBoundsException {
        if (line < 0 || line >= wiring.rows + wiring.columns) {
            throw new IndexOutOfBoundsException("no such line");
        }
        wiring.breakLine(line, isBroken);
        return Integer.bitCount(wiring.broken);
    }

    public int patience(int patience, boolean isGuarded) throws IllegalArgumentException {
        if (patience < 1 || patience > MOST_PATIENCE) {
            throw new IllegalArgumentException("patience is 1 to 6");
        }
        int before = this.patience;
        this.patience = patience;
        this.isGuarded = isGuarded;
        return before;
    }

    public int code(int layer, int key, int code)
            throws IndexOutOfBoundsException, IllegalArgumentException {
        if (!wiring.hasKey(key)) {
            throw new IndexOutOfBoundsException("no such key");
        }
        if (layer < 0 || layer >= LAYERS || code < 0 || code > MOST_CODE) {
            throw new IllegalArgumentException("a layer is 0 to 2, a code 0 to 31");
        }
        int place = layer * MOST_KEYS + key;
        int before = typist.codes[place];
        typist.codes[place] = code;
        return before;
    }

    public int chord(int keys, int letter)
            throws IllegalArgumentException, IllegalStateException {
        int many = Integer.bitCount(keys);
        boolean isChord = wiring.isSet(keys) && many >= 2 && many <= MOST_CHORD_KEYS;
        if (!isChord || letter < 0 || letter >= LETTERS) {
            throw new IllegalArgumentException("a chord is two or three keys and a letter");
        }
        if (typist.chords >= MOST_CHORDS) {
            throw new IllegalStateException("there are 6 chords");
        }
        return typist.addChord(keys, letter);
    }

    public int hold(int key, boolean isHeld)
            throws IndexOutOfBoundsException, IllegalStateException {
        if (!wiring.hasKey(key)) {
            throw new IndexOutOfBoundsException("no such key");
        }
        if (!holds(wiring.fitted, key)) {
            throw new IllegalStateException("the key is not fitted");
        }
        fingers.move(key, isHeld, scans);
        return Integer.bitCount(fingers.held);
    }

    public int scan(int scans) throws IllegalArgumentException, IllegalStateException {
        if (scans < 1 || scans > MOST_SCANS_A_CALL) {
            throw new IllegalArgumentException("1 to 50 scans go by at once");
        }
        if (this.scans + scans > MOST_SCANS) {
            throw new IllegalStateException("scans are 2000 at most");
        }
        int before = watch.eventsInAll;
        for (int i = 0; i < scans; i++) {
            scanOnce();
        }
        return watch.eventsInAll - before;
    }

    private void scanOnce() {
        scans++;
        closedLast = fingers.closedNow(wiring.fitted, wiring.keys);
        seenLast = wiring.seenIf(closedLast);
        for (int key = 0; key < wiring.keys; key++) {
            if (watch.isDue(key, holds(seenLast, key), patience)) {
                changeOrWait(key);
            }
        }
        typist.typeChords(scans);
    }

    private void changeOrWait(int key) {
        boolean isPress = !holds(watch.down, key);
        if (isPress && isGuarded && couldBeGhost(key)) {
            watch.count[key] = patience;
            return;
        }
        watch.change(key, scans);
        if (isPress) {
            typist.press(key, scans);
        } else {
            typist.release(key);
        }
    }

    private boolean couldBeGhost(int key) {
        return holds(wiring.seenIf(seenLast & ~(1 << key)), key);
    }

    public int call() {
        refused++;
        return refused;
    }

    public int of(int key, int what)
            throws IndexOutOfBoundsException, IllegalArgumentException {
        if (!wiring.hasKey(key)) {
            throw new IndexOutOfBoundsException("no such key");
        }
        if (what < 0 || what > LAST_OF) {
            throw new IllegalArgumentException("what is 0 to 10");
        }
        return tellOf(key, what);
    }

    private int tellOf(int key, int what) {
        switch (what) {
            case 0: return oneIf(holds(wiring.fitted, key));
            case 1: return oneIf(holds(wiring.diodes, key));
            case 2: return fingers.bounce[key];
            case 3: return fingers.stuck[key];
            case 4: return oneIf(holds(fingers.held, key));
            case 5: return fingers.bouncing[key];
            case 6: return oneIf(holds(watch.down, key));
            case 7: return watch.count[key];
            case 8: return typist.got[key];
            case 9: return lagOf(key);
            default: return watch.events[key];
        }
    }

    private int lagOf(int key) {
        int moved = fingers.moved[key];
        int event = watch.lastEvent[key];
        return moved != NONE && event > moved ? event - moved : 0;
    }

    public int set(int what) throws IllegalArgumentException {
        if (what < 0 || what > LAST_SET) {
            throw new IllegalArgumentException("what is 0 to 5");
        }
        return tellSet(what);
    }

    private int tellSet(int what) {
        switch (what) {
            case 0: return closedLast;
            case 1: return seenLast;
            case 2: return seenLast & ~closedLast;
            case 3: return watch.down;
            case 4: return fingers.held;
            default: return wiring.fitted;
        }
    }

    public int board(int what) throws IllegalArgumentException {
        if (what < 0 || what > LAST_BOARD) {
            throw new IllegalArgumentException("what is 0 to 14");
        }
        return tellBoard(what);
    }

    private int tellBoard(int what) {
        switch (what) {
            case 0: return wiring.rows;
            case 1: return wiring.columns;
            case 2: return scans;
            case 3: return watch.eventsInAll;
            case 4: return fingers.luck;
            case 5: return patience;
            case 6: return oneIf(isGuarded);
            case 7: return typist.layerNow();
            case 8: return oneIf(wiring.isClear());
            case 9: return wiring.leastKeys(wiring.diodes);
            case 10: return Integer.bitCount(wiring.broken);
            case 11: return typist.chords;
            case 12: return typist.chordsTyped;
            case 13: return typist.lost;
            default: return refused;
        }
    }

    public String text() {
        return typist.signs.toString();
    }

    public String picture(int row) throws IndexOutOfBoundsException {
        if (row < 0 || row >= wiring.rows) {
            throw new IndexOutOfBoundsException("no such row");
        }
        StringBuilder signs = new StringBuilder();
        for (int column = 0; column < wiring.columns; column++) {
            signs.append(signOf(row * wiring.columns + column));
        }
        return signs.toString();
    }

    private char signOf(int key) {
        if (!holds(wiring.fitted, key)) {
            return ' ';
        }
        if (holds(watch.down, key)) {
            return '#';
        }
        return holds(fingers.held, key) ? '+' : '.';
    }

    public double lag() {
        int sum = 0;
        int many = 0;
        for (int key = 0; key < wiring.keys; key++) {
            if (watch.events[key] > 0) {
                sum += lagOf(key);
                many++;
            }
        }
        return many == 0 ? 0.0 : (double) sum / many;
    }

    public int seen(int closed) throws IllegalArgumentException {
        if (!wiring.isSet(closed)) {
            throw new IllegalArgumentException("no set of keys");
        }
        return wiring.seenIf(closed);
    }

    public boolean exact(int closed) throws IllegalArgumentException {
        if (!wiring.isSet(closed)) {
            throw new IllegalArgumentException("no set of keys");
        }
        return wiring.isExact(closed);
    }

    public int unclear(int many) throws IllegalArgumentException {
        if (many < 1 || many > MOST_UNCLEAR) {
            throw new IllegalArgumentException("many is 1 to 4");
        }
        return wiring.unclearSets(many);
    }

    public int wouldHelp(int key) throws IndexOutOfBoundsException {
        if (!wiring.hasKey(key)) {
            throw new IndexOutOfBoundsException("no such key");
        }
        return wiring.leastKeys(wiring.diodes | (1 << key));
    }

    public int bestDiode() {
        return wiring.diodeToAdd();
    }

    public int wouldGhost(int key) throws IndexOutOfBoundsException {
        if (!wiring.hasKey(key)) {
            throw new IndexOutOfBoundsException("no such key");
        }
        return ghostsWith(key);
    }

    private int ghostsWith(int key) {
        return holds(wiring.fitted, key) ? wiring.ghostsIf(closedLast | (1 << key)) : 0;
    }

    public boolean isSound() {
        boolean heldAreFitted = (fingers.held & ~wiring.fitted) == 0;
        boolean isShort = typist.signs.length() <= MOST_SIGNS;
        return heldAreFitted && isShort && wiring.keysAloneAreSound() && wiring.leastIsSound();
    }

    public long digest() {
        long sum = 6553;
        for (int what = 0; what <= LAST_BOARD; what++) {
            sum = sum * 31 + tellBoard(what);
        }
        for (int what = 0; what <= LAST_SET; what++) {
            sum = sum * 31 + tellSet(what);
        }
        for (int key = 0; key < wiring.keys; key++) {
            for (int what = 0; what <= LAST_OF; what++) {
                sum = sum * 31 + tellOf(key, what);
            }
            sum = sum * 31 + ghostsWith(key);
        }
        for (int i = 0; i < typist.signs.length(); i++) {
            sum = sum * 31 + typist.signs.charAt(i);
        }
        sum = sum * 31 + wiring.unclearSets(3);
        sum = sum * 31 + wiring.diodeToAdd();
        sum = sum * 31 + (long) (64 * lag());
        return sum * 31 + oneIf(isSound());
    }

    private static boolean holds(int set, int number) {
        return (set >> number & 1) == 1;
    }

    private static int oneIf(boolean isSo) {
        return isSo ? 1 : 0;
    }

    /** Rows, columns, keys and diodes, and what they show (the document's parts 1 and 2). */
    private static final class Wiring {
        /** How many sets of four there are of 25 keys: the most that are ever gone through. */
        private static final int MOST_SETS = 12650;

        private int rows;
        private int columns;
        private int keys;
        private int fitted;
        private int diodes;
        private int broken;
        /** The keys that are fitted and have no broken line: nothing else ever conducts. */
        private int live;

        private void startAnew(int newRows, int newColumns) {
            rows = newRows;
            columns = newColumns;
            keys = newRows * newColumns;
            fitted = (1 << keys) - 1;
            diodes = 0;
            broken = 0;
            live = fitted;
        }

        private boolean hasKey(int key) {
            return key >= 0 && key < keys;
        }

        private boolean isSet(int set) {
            return set >= 0 && set < 1 << keys;
        }

        private void fit(int key, boolean isFitted, boolean hasDiode) {
            int bit = 1 << key;
            fitted = isFitted ? fitted | bit : fitted & ~bit;
            diodes = hasDiode ? diodes | bit : diodes & ~bit;
            findLive();
        }

        private void breakLine(int line, boolean isBroken) {
            int bit = 1 << line;
            broken = isBroken ? broken | bit : broken & ~bit;
            findLive();
        }

        private void findLive() {
            live = 0;
            for (int row = 0; row < rows; row++) {
                for (int column = 0; column < columns; column++) {
                    int key = row * columns + column;
                    boolean isCut = holds(broken, row) || holds(broken, rows + column);
                    if (holds(fitted, key) && !isCut) {
                        live |= 1 << key;
                    }
                }
            }
        }

        private int rowOf(int key) {
            return columns > 0 ? key / columns : 0;
        }

        /** The columns, as a set, in which the row has a key of the set. */
        private int columnsOf(int set, int row) {
            return set >> row * columns & (1 << columns) - 1;
        }

        private int seenIf(int closed) {
            int forth = closed & live;
            int back = forth & ~diodes;
            int seen = 0;
            for (int row = 0; row < rows; row++) {
                int first = columnsOf(forth, row);
                if (first != 0) {
                    // each step but the last one comes to a row more, so rows are steps enough
                    seen |= spread(first, forth, back, rows) << row * columns;
                }
            }
            return seen & fitted;
        }

        /** The columns reached from some columns by so many steps back to rows and forth again. */
        private int spread(int first, int forth, int back, int steps) {
            int reached = first;
            for (int step = 0; step < steps; step++) {
                int wider = reached;
                for (int row = 0; row < rows; row++) {
                    if ((columnsOf(back, row) & reached) != 0) {
                        wider |= columnsOf(forth, row);
                    }
                }
                if (wider == reached) {
                    return reached;
                }
                reached = wider;
            }
            return reached;
        }

        private int ghostsIf(int closed) {
            return seenIf(closed) & ~closed;
        }

        private boolean isExact(int closed) {
            return (seenIf(closed) & ~closed) == 0;
        }

        private boolean isClear() {
            for (int key = 0; key < keys; key++) {
                if (holds(seenIf(fitted & ~(1 << key)), key)) {
                    return false;
                }
            }
            return true;
        }

        /** LEAST, if just these keys had diodes. */
        private int leastKeys(int withDiodes) {
            int least = NONE;
            for (int key = 0; key < keys; key++) {
                int way = holds(live, key) ? wayRound(key, withDiodes) : NONE;
                if (way != NONE && (least == NONE || way < least)) {
                    least = way;
                }
            }
            return least;
        }

        /** How many keys the shortest way from the key's row to its column has without the key. */
        private int wayRound(int key, int withDiodes) {
            int row = rowOf(key);
            int column = key - row * columns;
            int forth = live & ~(1 << key);
            int back = forth & ~withDiodes;
            int reached = columnsOf(forth, row);
            for (int many = 3; many < 2 * rows; many += 2) {
                reached = spread(reached, forth, back, 1);
                if (holds(reached, column)) {
                    return many;
                }
            }
            return NONE;
        }

        private int unclearSets(int many) {
            int unclear = 0;
            int set = (1 << many) - 1;
            for (int i = 0; i < MOST_SETS && isSet(set); i++) {
                if ((set & ~fitted) == 0 && !isExact(set)) {
                    unclear++;
                }
                set = nextOfSameSize(set);
            }
            return unclear;
        }

        /** The next greater number with as many bits. */
        private static int nextOfSameSize(int set) {
            int lowest = set & -set;
            int carried = set + lowest;
            return carried | (set ^ carried) >> 2 + Integer.bitCount(lowest - 1);
        }

        private int diodeToAdd() {
            int best = NONE;
            int most = NONE;
            for (int key = 0; key < keys; key++) {
                if (holds(fitted & ~diodes, key)) {
                    int spared = setsBackBy(key);
                    if (spared > most) {
                        most = spared;
                        best = key;
                    }
                }
            }
            return best;
        }

        /**
         * How many sets of three show a ghost by going back through this key, which has no diode.
         * Three keys show a ghost as three corners of a rectangle alone, and go back through the
         * middle one: so these are just the sets that a diode here would make exact.
         */
        private int setsBackBy(int key) {
            if (!holds(live, key)) {
                return 0;
            }
            int row = rowOf(key);
            int column = key - row * columns;
            int across = columnsOf(live, row) & ~(1 << column);
            int sets = 0;
            for (int other = 0; other < rows; other++) {
                int there = columnsOf(live, other);
                if (other != row && holds(there, column)) {
                    sets += Integer.bitCount(there & across);
                }
            }
            return sets;
        }

        private boolean keysAloneAreSound() {
            for (int key = 0; key < keys; key++) {
                int bit = 1 << key;
                boolean isSeen = seenIf(bit) == bit;
                if (holds(fitted, key) && (!isExact(bit) || holds(live, key) && !isSeen)) {
                    return false;
                }
            }
            return true;
        }

        private boolean leastIsSound() {
            int least = leastKeys(diodes);
            if (isClear()) {
                return least == NONE && isExact(fitted);
            }
            return least >= 3 && least % 2 == 1;
        }
    }

    /** What fingers and contacts do (the document's part 3, up to what is closed). */
    private static final class Fingers {
        private final int[] bounce;
        private final int[] stuck;
        private final int[] bouncing;
        /** How many scans there were as the key was held or lifted last, NONE if it never was. */
        private final int[] moved;
        private int held;
        private int luck;

        private Fingers() {
            bounce = new int[MOST_KEYS];
            stuck = new int[MOST_KEYS];
            bouncing = new int[MOST_KEYS];
            moved = new int[MOST_KEYS];
            held = 0;
            luck = 23;
        }

        /** Leaves LUCK as it is: a new board does not change it. */
        private void startAnew() {
            for (int key = 0; key < MOST_KEYS; key++) {
                bounce[key] = 0;
                stuck[key] = 0;
                bouncing[key] = 0;
                moved[key] = NONE;
            }
            held = 0;
        }

        private void move(int key, boolean isHeld, int scans) {
            if (holds(held, key) == isHeld) {
                return;
            }
            held ^= 1 << key;
            bouncing[key] = bounce[key];
            moved[key] = scans;
        }

        private int closedNow(int fitted, int keys) {
            int closed = 0;
            for (int key = 0; key < keys; key++) {
                if (holds(fitted, key) && isClosedNow(key)) {
                    closed |= 1 << key;
                }
            }
            return closed;
        }

        private boolean isClosedNow(int key) {
            if (stuck[key] != 0) {
                return stuck[key] != STUCK_OPEN;
            }
            if (bouncing[key] > 0) {
                bouncing[key]--;
                luck = (61 * luck + 35) % 128;
                return luck % 2 == 1;
            }
            return holds(held, key);
        }
    }

    /** Which keys are down, and the events by which they became so (the document's part 3). */
    private static final class Watch {
        private final int[] count;
        private final int[] events;
        private final int[] lastEvent;
        private int down;
        private int eventsInAll;

        private Watch() {
            count = new int[MOST_KEYS];
            events = new int[MOST_KEYS];
            lastEvent = new int[MOST_KEYS];
            down = 0;
            eventsInAll = 0;
        }

        private void startAnew() {
            for (int key = 0; key < MOST_KEYS; key++) {
                count[key] = 0;
                events[key] = 0;
                lastEvent[key] = 0;
            }
            down = 0;
            eventsInAll = 0;
        }

        /** Counts a scan more of the key, and tells whether it is to change. */
        private boolean isDue(int key, boolean isSeen, int patience) {
            if (isSeen == holds(down, key)) {
                count[key] = 0;
                return false;
            }
            count[key]++;
            return count[key] >= patience;
        }

        private void change(int key, int scan) {
            down ^= 1 << key;
            count[key] = 0;
            events[key]++;
            lastEvent[key] = scan;
            eventsInAll++;
        }
    }

    /** Layers, chords and the text (the document's part 4). */
    private static final class Typist {
        private static final int BLANK = 26;
        private static final int ERASE = 27;
        private static final int SHIFT = 28;
        private static final int TO_LAYER_1 = 29;
        private static final int TO_LAYER_2 = 30;
        private static final int NOTHING = 31;
        private static final int CHORD_SCANS = 8;

        private final int[] codes;
        /** The code that each key got as it became down, NONE if it is up. */
        private final int[] got;
        /** The scan at which each key became down last. */
        private final int[] since;
        private final StringBuilder signs;
        private int lost;
        private final int[] chordKeys;
        private final int[] chordLetters;
        /** For each chord the scans at which its keys had become down as it was typed last. */
        private final int[] chordSince;
        private int chords;
        private int chordsTyped;

        private Typist() {
            codes = new int[LAYERS * MOST_KEYS];
            got = new int[MOST_KEYS];
            since = new int[MOST_KEYS];
            signs = new StringBuilder();
            chordKeys = new int[MOST_CHORDS];
            chordLetters = new int[MOST_CHORDS];
            chordSince = new int[MOST_CHORDS * MOST_CHORD_KEYS];
        }

        private void startAnew() {
            for (int place = 0; place < codes.length; place++) {
                codes[place] = place < MOST_KEYS ? place % LETTERS : NOTHING;
            }
            for (int key = 0; key < MOST_KEYS; key++) {
                got[key] = NONE;
                since[key] = 0;
            }
            signs.setLength(0);
            lost = 0;
            chords = 0;
            chordsTyped = 0;
        }

        private int layerNow() {
            if (isDownWith(TO_LAYER_2)) {
                return 2;
            }
            return isDownWith(TO_LAYER_1) ? 1 : 0;
        }

        private boolean isDownWith(int code) {
            for (int key = 0; key < MOST_KEYS; key++) {
                if (got[key] == code) {
                    return true;
                }
            }
            return false;
        }

        private void press(int key, int scan) {
            int code = codes[layerNow() * MOST_KEYS + key];
            got[key] = code;
            since[key] = scan;
            if (code < LETTERS) {
                type((char) ((isDownWith(SHIFT) ? 'A' : 'a') + code));
            } else if (code == BLANK) {
                type(' ');
            } else if (code == ERASE && signs.length() > 0) {
                signs.setLength(signs.length() - 1);
            }
        }

        private void release(int key) {
            got[key] = NONE;
        }

        private void type(char sign) {
            if (signs.length() < MOST_SIGNS) {
                signs.append(sign);
            } else {
                lost++;
            }
        }

        /** Only for a chord more than there are, if there is room for it. */
        private int addChord(int keys, int letter) {
            int chord = chords;
            chordKeys[chord] = keys;
            chordLetters[chord] = letter;
            for (int i = 0; i < MOST_CHORD_KEYS; i++) {
                chordSince[chord * MOST_CHORD_KEYS + i] = 0;
            }
            chords++;
            return chord;
        }

        private void typeChords(int scan) {
            for (int chord = 0; chord < chords; chord++) {
                if (isDown(chord, scan) && isByNewEvents(chord)) {
                    chordsTyped++;
                    type((char) ('a' + chordLetters[chord]));
                }
            }
        }

        private boolean isDown(int chord, int scan) {
            for (int key = 0; key < MOST_KEYS; key++) {
                boolean isDownLately = got[key] != NONE && scan - since[key] < CHORD_SCANS;
                if (holds(chordKeys[chord], key) && !isDownLately) {
                    return false;
                }
            }
            return true;
        }

        /** Whether the chord was not typed for these events yet; it keeps them for the next time. */
        private boolean isByNewEvents(int chord) {
            boolean isNew = false;
            int place = chord * MOST_CHORD_KEYS;
            for (int key = 0; key < MOST_KEYS; key++) {
                if (holds(chordKeys[chord], key) && place < chordSince.length) {
                    isNew = isNew || chordSince[place] != since[key];
                    chordSince[place] = since[key];
                    place++;
                }
            }
            return isNew;
        }
    }
}
