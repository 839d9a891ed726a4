/** What the tests of the document's sentences share: short names and quick fingers. */
abstract class Trial {
    static final Class<IllegalArgumentException> ARGUMENT = IllegalArgumentException.class;
    static final Class<IndexOutOfBoundsException> INDEX = IndexOutOfBoundsException.class;
    static final Class<IllegalStateException> STATE = IllegalStateException.class;
    static final int NONE = -1;

    final Check check = new Check();

    final void due(String what, Object want, Check.Call call) {
        check.due(what, want, call);
    }

    /** Two objects that were made so answer alike whatever is asked. */
    final void alike(String what, Traces.Make one, Traces.Make other) {
        due(what + ", an answer that differs", "none", () -> Traces.difference(one, other));
    }

    /** A board on which a key is down, or up, at the very next scan. */
    static Rowscan quick(int rows, int columns) {
        Rowscan x = new Rowscan();
        x.lay(rows, columns);
        x.patience(1, false);
        return x;
    }

    static void press(Rowscan x, int... keys) {
        holdAll(x, true, keys);
        x.scan(1);
    }

    static void lift(Rowscan x, int... keys) {
        holdAll(x, false, keys);
        x.scan(1);
    }

    static void holdAll(Rowscan x, boolean isHeld, int... keys) {
        for (int key : keys) {
            x.hold(key, isHeld);
        }
    }

    static void tap(Rowscan x, int... keys) {
        press(x, keys);
        lift(x, keys);
    }

    static int setOf(int... keys) {
        int set = 0;
        for (int key : keys) {
            set |= 1 << key;
        }
        return set;
    }

    static int all(int keys) {
        return (1 << keys) - 1;
    }

    /** LUCK behind so many draws of a new object. */
    static int luckAfter(int draws) {
        int luck = 23;
        for (int i = 0; i < draws; i++) {
            luck = (61 * luck + 35) % 128;
        }
        return luck;
    }

    /** No key of the board is fitted but these. */
    static void fitOnly(Rowscan x, int... keys) {
        int fitted = setOf(keys);
        int all = x.board(0) * x.board(1);
        for (int key = 0; key < all; key++) {
            x.key(key, (fitted >> key & 1) == 1, false, 0, 0);
        }
    }

    static void giveDiodes(Rowscan x, int... keys) {
        for (int key : keys) {
            x.key(key, true, true, 0, 0);
        }
    }
}
