import java.util.ArrayList;
import java.util.HashMap;
import java.util.HashSet;
import java.util.List;
import java.util.Map;
import java.util.Set;
import java.util.TreeSet;

/**
 * The document word by word, slow and without tricks, to hold Rowscan's answers against. It goes
 * through sets and ways one by one where Rowscan counts them.
 */
final class Model {
    private static final class Key {
        boolean fitted = true;
        boolean diode;
        int bounce;
        int stuck;
        boolean held;
        int bouncing;
        boolean down;
        int count;
        int code = -1;
        /** The number of the event by which it became down. */
        int pressedBy;
        int pressedAt;
        boolean wasMoved;
        int movedAt;
        int events;
        int lastEventAt;
    }

    private static final class Chord {
        final Set<Integer> keys = new TreeSet<>();
        int letter;
        final Set<List<Integer>> typedFor = new HashSet<>();
    }

    int luck = 23;
    int refused;
    int rows;
    int columns;
    List<Key> keys;
    boolean[] broken;
    int[][] codes;
    List<Chord> chords;
    int patience;
    boolean guard;
    int scans;
    int events;
    int typed;
    int lost;
    String text;
    Set<Integer> closedLast;
    Set<Integer> seenLast;
    private final Map<String, Integer> leastKnown = new HashMap<>();

    Model() {
        lay(3, 3);
    }

    int lay(int newRows, int newColumns) {
        if (newRows < 2 || newRows > 5 || newColumns < 2 || newColumns > 5) {
            throw new IllegalArgumentException();
        }
        rows = newRows;
        columns = newColumns;
        keys = new ArrayList<>();
        codes = new int[3][rows * columns];
        for (int k = 0; k < rows * columns; k++) {
            keys.add(new Key());
            codes[0][k] = k % 26;
            codes[1][k] = 31;
            codes[2][k] = 31;
        }
        broken = new boolean[rows + columns];
        chords = new ArrayList<>();
        patience = 2;
        guard = false;
        scans = 0;
        events = 0;
        typed = 0;
        lost = 0;
        text = "";
        closedLast = new TreeSet<>();
        seenLast = new TreeSet<>();
        return keys.size();
    }

    private Key at(int key) {
        if (key < 0 || key >= keys.size()) {
            throw new IndexOutOfBoundsException();
        }
        return keys.get(key);
    }

    int key(int key, boolean isFitted, boolean hasDiode, int bounce, int stuck) {
        Key k = at(key);
        if (bounce < 0 || bounce > 5 || stuck < 0 || stuck > 2) {
            throw new IllegalArgumentException();
        }
        k.fitted = isFitted;
        k.diode = hasDiode;
        k.bounce = bounce;
        k.stuck = stuck;
        if (k.held && !k.fitted) {
            move(k, false);
        }
        return fitted().size();
    }

    private void move(Key k, boolean isHeld) {
        k.held = isHeld;
        k.bouncing = k.bounce;
        k.wasMoved = true;
        k.movedAt = scans;
    }

    int line(int line, boolean isBroken) {
        if (line < 0 || line >= broken.length) {
            throw new IndexOutOfBoundsException();
        }
        broken[line] = isBroken;
        return brokenLines();
    }

    private int brokenLines() {
        int many = 0;
        for (boolean b : broken) {
            many += b ? 1 : 0;
        }
        return many;
    }

    int patience(int newPatience, boolean isGuarded) {
        if (newPatience < 1 || newPatience > 6) {
            throw new IllegalArgumentException();
        }
        int before = patience;
        patience = newPatience;
        guard = isGuarded;
        return before;
    }

    int code(int layer, int key, int code) {
        at(key);
        if (layer < 0 || layer > 2 || code < 0 || code > 31) {
            throw new IllegalArgumentException();
        }
        int before = codes[layer][key];
        codes[layer][key] = code;
        return before;
    }

    int chord(int set, int letter) {
        Chord chord = new Chord();
        chord.keys.addAll(setOf(set));
        chord.letter = letter;
        if (chord.keys.size() < 2 || chord.keys.size() > 3 || letter < 0 || letter > 25) {
            throw new IllegalArgumentException();
        }
        if (chords.size() == 6) {
            throw new IllegalStateException();
        }
        chords.add(chord);
        return chords.size() - 1;
    }

    int hold(int key, boolean isHeld) {
        Key k = at(key);
        if (!k.fitted) {
            throw new IllegalStateException();
        }
        if (k.held != isHeld) {
            move(k, isHeld);
        }
        return heldKeys().size();
    }

    int scan(int many) {
        if (many < 1 || many > 50) {
            throw new IllegalArgumentException();
        }
        if (scans + many > 2000) {
            throw new IllegalStateException();
        }
        int before = events;
        for (int i = 0; i < many; i++) {
            scans++;
            closedLast = closedNow();
            seenLast = seenAs(closedLast);
            for (int k = 0; k < keys.size(); k++) {
                lookAt(k);
            }
            for (Chord chord : chords) {
                typeChord(chord);
            }
        }
        return events - before;
    }

    private Set<Integer> closedNow() {
        Set<Integer> closed = new TreeSet<>();
        for (int i = 0; i < keys.size(); i++) {
            Key k = keys.get(i);
            boolean isClosed;
            if (!k.fitted || k.stuck == 1) {
                isClosed = false;
            } else if (k.stuck == 2) {
                isClosed = true;
            } else if (k.bouncing > 0) {
                luck = (61 * luck + 35) % 128;
                isClosed = luck % 2 == 1;
                k.bouncing--;
            } else {
                isClosed = k.held;
            }
            if (isClosed) {
                closed.add(i);
            }
        }
        return closed;
    }

    private void lookAt(int number) {
        Key k = keys.get(number);
        boolean isSeen = seenLast.contains(number);
        if (isSeen == k.down) {
            k.count = 0;
            return;
        }
        k.count++;
        if (k.count < patience) {
            return;
        }
        if (isSeen && guard) {
            Set<Integer> others = new TreeSet<>(seenLast);
            others.remove(number);
            if (seenAs(others).contains(number)) {
                k.count = patience;
                return;
            }
        }
        k.count = 0;
        events++;
        k.events++;
        k.lastEventAt = scans;
        if (k.down) {
            k.down = false;
            k.code = -1;
            return;
        }
        int layer = layerNow();
        k.down = true;
        k.code = codes[layer][number];
        k.pressedBy = events;
        k.pressedAt = scans;
        obey(k.code);
    }

    private void obey(int code) {
        if (code <= 25) {
            type("abcdefghijklmnopqrstuvwxyz", "ABCDEFGHIJKLMNOPQRSTUVWXYZ", code);
        } else if (code == 26) {
            put(" ");
        } else if (code == 27 && !text.isEmpty()) {
            text = text.substring(0, text.length() - 1);
        }
    }

    private void type(String small, String great, int letter) {
        String from = isAnyDownWith(28) ? great : small;
        put(from.substring(letter, letter + 1));
    }

    private void put(String sign) {
        if (text.length() == 60) {
            lost++;
        } else {
            text += sign;
        }
    }

    private boolean isAnyDownWith(int code) {
        for (Key k : keys) {
            if (k.down && k.code == code) {
                return true;
            }
        }
        return false;
    }

    private int layerNow() {
        return isAnyDownWith(30) ? 2 : isAnyDownWith(29) ? 1 : 0;
    }

    private void typeChord(Chord chord) {
        List<Integer> by = new ArrayList<>();
        for (int number : chord.keys) {
            Key k = keys.get(number);
            // within the last 8 with this one: at this scan, or at one of the 7 ahead of it
            if (!k.down || k.pressedAt < scans - 7) {
                return;
            }
            by.add(k.pressedBy);
        }
        if (chord.typedFor.add(by)) {
            typed++;
            put("abcdefghijklmnopqrstuvwxyz".substring(chord.letter, chord.letter + 1));
        }
    }

    int call() {
        return ++refused;
    }

    int of(int key, int what) {
        Key k = at(key);
        switch (what) {
            case 0: return k.fitted ? 1 : 0;
            case 1: return k.diode ? 1 : 0;
            case 2: return k.bounce;
            case 3: return k.stuck;
            case 4: return k.held ? 1 : 0;
            case 5: return k.bouncing;
            case 6: return k.down ? 1 : 0;
            case 7: return k.count;
            case 8: return k.down ? k.code : -1;
            case 9: return lagOf(k);
            case 10: return k.events;
            default: throw new IllegalArgumentException();
        }
    }

    private int lagOf(Key k) {
        if (!k.wasMoved || k.events == 0 || k.lastEventAt <= k.movedAt) {
            return 0;
        }
        return k.lastEventAt - k.movedAt;
    }

    int set(int what) {
        switch (what) {
            case 0: return sum(closedLast);
            case 1: return sum(seenLast);
            case 2:
                Set<Integer> ghosts = new TreeSet<>(seenLast);
                ghosts.removeAll(closedLast);
                return sum(ghosts);
            case 3: return sum(downKeys());
            case 4: return sum(heldKeys());
            case 5: return sum(fitted());
            default: throw new IllegalArgumentException();
        }
    }

    int board(int what) {
        switch (what) {
            case 0: return rows;
            case 1: return columns;
            case 2: return scans;
            case 3: return events;
            case 4: return luck;
            case 5: return patience;
            case 6: return guard ? 1 : 0;
            case 7: return layerNow();
            case 8: return isClear() ? 1 : 0;
            case 9: return least();
            case 10: return brokenLines();
            case 11: return chords.size();
            case 12: return typed;
            case 13: return lost;
            case 14: return refused;
            default: throw new IllegalArgumentException();
        }
    }

    String text() {
        return text;
    }

    String picture(int row) {
        if (row < 0 || row >= rows) {
            throw new IndexOutOfBoundsException();
        }
        String signs = "";
        for (int column = 0; column < columns; column++) {
            Key k = keys.get(row * columns + column);
            signs += !k.fitted ? " " : k.down ? "#" : k.held ? "+" : ".";
        }
        return signs;
    }

    double lag() {
        double sum = 0;
        int many = 0;
        for (Key k : keys) {
            if (k.events > 0) {
                sum += lagOf(k);
                many++;
            }
        }
        return many == 0 ? 0.0 : sum / many;
    }

    int seen(int closed) {
        return sum(seenAs(setOf(closed)));
    }

    boolean exact(int closed) {
        return isExact(setOf(closed));
    }

    int unclear(int many) {
        if (many < 1 || many > 4) {
            throw new IllegalArgumentException();
        }
        return unclear(fitted(), 0, many, new TreeSet<>());
    }

    private int unclear(List<Integer> from, int next, int many, Set<Integer> chosen) {
        if (many == 0) {
            return isExact(chosen) ? 0 : 1;
        }
        int sets = 0;
        for (int i = next; i < from.size(); i++) {
            chosen.add(from.get(i));
            sets += unclear(from, i + 1, many - 1, chosen);
            chosen.remove(from.get(i));
        }
        return sets;
    }

    int wouldHelp(int key) {
        Key k = at(key);
        boolean before = k.diode;
        k.diode = true;
        int least = least();
        k.diode = before;
        return least;
    }

    int bestDiode() {
        int best = -1;
        int fewest = Integer.MAX_VALUE;
        for (int i = 0; i < keys.size(); i++) {
            Key k = keys.get(i);
            if (k.fitted && !k.diode) {
                k.diode = true;
                int sets = unclear(3);
                k.diode = false;
                if (sets < fewest) {
                    fewest = sets;
                    best = i;
                }
            }
        }
        return best;
    }

    int wouldGhost(int key) {
        if (!at(key).fitted) {
            return 0;
        }
        Set<Integer> closed = new TreeSet<>(closedLast);
        closed.add(key);
        Set<Integer> ghosts = seenAs(closed);
        ghosts.removeAll(closed);
        return sum(ghosts);
    }

    boolean isSound() {
        return true;
    }

    long digest() {
        List<Long> values = new ArrayList<>();
        for (int what = 0; what <= 14; what++) {
            values.add((long) board(what));
        }
        for (int what = 0; what <= 5; what++) {
            values.add((long) set(what));
        }
        for (int k = 0; k < keys.size(); k++) {
            for (int what = 0; what <= 10; what++) {
                values.add((long) of(k, what));
            }
            values.add((long) wouldGhost(k));
        }
        for (char sign : text.toCharArray()) {
            values.add((long) sign);
        }
        values.add((long) unclear(3));
        values.add((long) bestDiode());
        values.add((long) (lag() * 64));
        values.add(isSound() ? 1L : 0L);
        long d = 6553;
        for (long v : values) {
            d = d * 31 + v;
        }
        return d;
    }

    // what is seen, by sets of lines that are reached

    private List<Integer> fitted() {
        List<Integer> found = new ArrayList<>();
        for (int k = 0; k < keys.size(); k++) {
            if (keys.get(k).fitted) {
                found.add(k);
            }
        }
        return found;
    }

    private List<Integer> heldKeys() {
        List<Integer> found = new ArrayList<>();
        for (int k = 0; k < keys.size(); k++) {
            if (keys.get(k).held) {
                found.add(k);
            }
        }
        return found;
    }

    private List<Integer> downKeys() {
        List<Integer> found = new ArrayList<>();
        for (int k = 0; k < keys.size(); k++) {
            if (keys.get(k).down) {
                found.add(k);
            }
        }
        return found;
    }

    private static int sum(Iterable<Integer> set) {
        int sum = 0;
        for (int k : set) {
            sum += (int) Math.pow(2, k);
        }
        return sum;
    }

    private Set<Integer> setOf(int number) {
        if (number < 0 || number >= Math.pow(2, keys.size())) {
            throw new IllegalArgumentException();
        }
        Set<Integer> set = new TreeSet<>();
        for (int k = 0, rest = number; rest > 0; k++, rest /= 2) {
            if (rest % 2 == 1) {
                set.add(k);
            }
        }
        return set;
    }

    private Set<Integer> seenAs(Set<Integer> closed) {
        Set<Integer> seen = new TreeSet<>();
        for (int row = 0; row < rows; row++) {
            boolean[] reached = new boolean[rows + columns];
            follow(row, closed, reached);
            for (int column = 0; column < columns; column++) {
                int k = row * columns + column;
                if (keys.get(k).fitted && reached[rows + column]) {
                    seen.add(k);
                }
            }
        }
        return seen;
    }

    private void follow(int line, Set<Integer> closed, boolean[] reached) {
        reached[line] = true;
        for (int k : closed) {
            int row = k / columns;
            int column = rows + k % columns;
            boolean isWay = keys.get(k).fitted && !broken[row] && !broken[column];
            if (isWay && line == row && !reached[column]) {
                follow(column, closed, reached);
            }
            if (isWay && line == column && !keys.get(k).diode && !reached[row]) {
                follow(row, closed, reached);
            }
        }
    }

    private boolean isExact(Set<Integer> closed) {
        Set<Integer> fittedOnes = new TreeSet<>(closed);
        fittedOnes.retainAll(fitted());
        return fittedOnes.containsAll(seenAs(fittedOnes));
    }

    private boolean isClear() {
        for (int k : fitted()) {
            Set<Integer> others = new TreeSet<>(fitted());
            others.remove(k);
            if (seenAs(others).contains(k)) {
                return false;
            }
        }
        return true;
    }

    private int least() {
        StringBuilder state = new StringBuilder().append(rows).append(columns);
        for (Key k : keys) {
            state.append(k.fitted ? 1 : 0).append(k.diode ? 1 : 0);
        }
        for (boolean b : broken) {
            state.append(b);
        }
        return leastKnown.computeIfAbsent(state.toString(), unused -> findLeast());
    }

    private int findLeast() {
        if (isClear()) {
            return -1;
        }
        for (int many = 1; many <= keys.size(); many++) {
            if (isAnyUnclear(fitted(), 0, many, new TreeSet<>())) {
                return many;
            }
        }
        throw new AssertionError("a board that is not clear shows a ghost");
    }

    private boolean isAnyUnclear(List<Integer> from, int next, int many, Set<Integer> chosen) {
        if (many == 0) {
            return !isExact(chosen);
        }
        for (int i = next; i <= from.size() - many; i++) {
            chosen.add(from.get(i));
            boolean found = isAnyUnclear(from, i + 1, many - 1, chosen);
            chosen.remove(from.get(i));
            if (found) {
                return true;
            }
        }
        return false;
    }
}
