import java.math.BigInteger;
import java.util.ArrayList;
import java.util.List;

/**
 * What an object answers as it is asked for all that it tells, and then used so that what it keeps
 * to itself (codes, chords, bounces, counts) comes out too. Two objects that stand alike answer
 * alike. Of the 512 calls of its object a trace takes less than 220 on boards of twelve keys, and
 * less than 450 on the greatest one.
 */
final class Traces {
    interface Make {
        void on(Rowscan x);
    }

    private final Rowscan x = new Rowscan();
    private final List<String> answers = new ArrayList<>();

    private Traces() {
    }

    static List<String> of(Make make) {
        Traces trace = new Traces();
        make.on(trace.x);
        trace.ask();
        trace.use();
        return trace.answers;
    }

    /** The first answer in which two objects that were made so differ, or that none does. */
    static String difference(Make one, Make other) {
        List<String> first = of(one);
        List<String> second = of(other);
        for (int i = 0; i < first.size() || i < second.size(); i++) {
            String a = i < first.size() ? first.get(i) : "nothing more";
            String b = i < second.size() ? second.get(i) : "nothing more";
            if (!a.equals(b)) {
                return a + " or " + b;
            }
        }
        return "none";
    }

    private void note(String call, Check.Call answer) {
        answers.add(call + " = " + Check.outcome(answer));
    }

    private int keys() {
        return x.board(0) * x.board(1);
    }

    private void ask() {
        note("digest", x::digest);
        note("text", x::text);
        note("lag", x::lag);
        for (int i = 0; i < x.board(0); i++) {
            int row = i;
            note("picture " + row, () -> x.picture(row));
        }
        for (int i = 1; i <= 4; i++) {
            int many = i;
            note("unclear " + many, () -> x.unclear(many));
        }
        int keys = keys();
        for (int i = 0; i < keys; i++) {
            int key = i;
            note("wouldHelp " + key, () -> x.wouldHelp(key));
        }
        note("seen", () -> x.seen((1 << keys) - 1));
        note("exact", () -> x.exact((1 << keys) - 2));
    }

    private void use() {
        int keys = keys();
        for (int i = 0; i < 6; i++) {
            scan();
        }
        note("patience", () -> x.patience(1, false));
        for (int key = 0; key < keys; key++) {
            move(key, true);
        }
        for (int key = 0; key < keys; key++) {
            move(key, false);
        }
        for (int i = 0; i < keys; i++) {
            int key = i;
            note("key " + key, () -> x.key(key, true, false, 0, 2));
        }
        scan();
        note("call", x::call);
        note("chord", () -> x.chord(3, 0));
        for (int i = 0; i < 3 * keys; i++) {
            int layer = i / keys;
            int key = i % keys;
            note("code " + layer + " " + key, () -> x.code(layer, key, 0));
        }
    }

    /** Nothing is refused here, as what a refused call changes would come to both objects then. */
    private void move(int key, boolean isHeld) {
        if (x.of(key, 0) == 0) {
            return;
        }
        note("hold " + key + " " + isHeld, () -> x.hold(key, isHeld));
        note("LAG " + key, () -> x.of(key, 9));
        scan();
    }

    private void scan() {
        note("scan", () -> x.scan(1));
        note("digest", x::digest);
    }

    /** The checksum of what the other calls answer, as the document tells it. */
    static long sum(Rowscan x) {
        List<Long> values = new ArrayList<>();
        for (int what = 0; what <= 14; what++) {
            values.add((long) x.board(what));
        }
        for (int what = 0; what <= 5; what++) {
            values.add((long) x.set(what));
        }
        int keys = x.board(0) * x.board(1);
        for (int key = 0; key < keys; key++) {
            for (int what = 0; what <= 10; what++) {
                values.add((long) x.of(key, what));
            }
            values.add((long) x.wouldGhost(key));
        }
        for (char sign : x.text().toCharArray()) {
            values.add((long) sign);
        }
        values.add((long) x.unclear(3));
        values.add((long) x.bestDiode());
        values.add((long) (64 * x.lag()));
        values.add(x.isSound() ? 1L : 0L);
        return wrapped(values);
    }

    /** In numbers without a bound, of which the last 64 bits are taken at the end. */
    private static long wrapped(List<Long> values) {
        BigInteger d = BigInteger.valueOf(6553);
        for (long value : values) {
            d = d.multiply(BigInteger.valueOf(31)).add(BigInteger.valueOf(value));
        }
        return d.longValue();
    }
}
