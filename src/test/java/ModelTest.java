import java.util.Random;

/** Runs of random calls, right and wrong ones, of which each is to answer as the model does. */
public final class ModelTest {
    private static final int RUNS = 400;
    private static final int CALLS = 512;

    private final Random random;
    private final int run;
    private Rowscan real;
    private Model model;
    private int size = 9;

    private ModelTest(int run) {
        this.run = run;
        random = new Random(run);
    }

    public static void main(String[] args) {
        int calls = 0;
        int wrong = 0;
        for (int run = 0; run < RUNS && wrong == 0; run++) {
            ModelTest test = new ModelTest(run);
            wrong += test.go();
            calls += CALLS;
        }
        System.out.println("ModelTest: " + calls + " calls in runs against the model");
        if (wrong > 0) {
            System.exit(1);
        }
    }

    private int go() {
        real = new Rowscan();
        model = new Model();
        // a run of its own kind each: small boards and great ones, few changes and many
        int most = 2 + run % 4;
        int busy = 1 + run % 7;
        for (int i = 0; i < CALLS; i++) {
            String call = oneCall(i, most, busy);
            call = call != null ? call : sameState();
            if (call != null) {
                System.out.println("run " + run + ", call " + i + ": " + call);
                return 1;
            }
        }
        return 0;
    }

    private String same(String call, Check.Call want, Check.Call got) {
        Object due = Check.outcome(want);
        Object answer = Check.outcome(got);
        return due.equals(answer) ? null : call + " answered " + answer + ", due is " + due;
    }

    /** All that is told cheaply, so that a call that changes what it should not is found at once. */
    private String sameState() {
        for (int k = 0; k < size; k++) {
            for (int what = 0; what <= 10; what++) {
                if (model.of(k, what) != real.of(k, what)) {
                    return "then of(" + k + ", " + what + ") answered " + real.of(k, what);
                }
            }
        }
        for (int what = 0; what <= 5; what++) {
            if (model.set(what) != real.set(what)) {
                return "then set(" + what + ") answered " + real.set(what);
            }
        }
        for (int what = 0; what <= 14; what++) {
            if (what != 8 && what != 9 && model.board(what) != real.board(what)) {
                return "then board(" + what + ") answered " + real.board(what);
            }
        }
        return same("then text()", model::text, real::text);
    }

    /** Mostly within the bounds, at times just outside, seldom far away. */
    private int number(int from, int to) {
        int dice = random.nextInt(60);
        if (dice == 0) {
            return from - 1;
        }
        if (dice == 1) {
            return to + 1;
        }
        if (dice == 2 && random.nextInt(4) == 0) {
            int[] far = {Integer.MIN_VALUE, Integer.MAX_VALUE, -2, 32, 64, 1 << 30};
            return far[random.nextInt(far.length)];
        }
        return from + random.nextInt(to - from + 1);
    }

    private int someKeys(int many) {
        int set = 0;
        for (int i = 0; i < many; i++) {
            set |= 1 << random.nextInt(size);
        }
        int dice = random.nextInt(40);
        return dice == 0 ? set | 1 << size : dice == 1 ? set | Integer.MIN_VALUE : set;
    }

    private String oneCall(int i, int most, int busy) {
        // a typist types on and on, and tells and asks little
        boolean isTypist = run % 4 == 1;
        int dice = isTypist ? random.nextInt(64) : random.nextInt(100);
        int period = run % 3 < 2 ? CALLS : 190;
        if (i % period == 0 && (i > 0 || run % 5 > 0)) {
            return lay(most);
        }
        if (i < 25) {
            return isTypist && i > 12 ? tellChord() : prepare();
        }
        if (dice < 30) {
            int k = number(0, size - 1);
            boolean isChange = random.nextInt(6) > 0;
            boolean isHeld = ((model.set(4) >> k & 1) == 0) == isChange;
            return same("hold(" + k + ", " + isHeld + ")", () -> model.hold(k, isHeld),
                    () -> real.hold(k, isHeld));
        }
        if (dice < 60) {
            boolean isLong = random.nextInt(run % 6 == 0 ? 2 : 12) == 0;
            int many = isLong ? number(1, 50) : number(1, busy);
            return same("scan(" + many + ")", () -> model.scan(many), () -> real.scan(many));
        }
        if (dice < 66) {
            return prepare();
        }
        return ask(i);
    }

    private String lay(int most) {
        int rows = random.nextInt(30) == 0 ? number(2, 5) : 2 + random.nextInt(most - 1);
        int columns = number(2, 5);
        String wrong = same("lay(" + rows + ", " + columns + ")", () -> model.lay(rows, columns),
                () -> real.lay(rows, columns));
        size = model.keys.size();
        return wrong;
    }

    private String prepare() {
        int k = number(0, size - 1);
        switch (random.nextInt(8)) {
            case 0:
            case 1:
            case 2:
                return tellKey(k);
            case 3:
                int line = number(0, model.rows + model.columns - 1);
                boolean isBroken = random.nextInt(5) == 0;
                return same("line(" + line + ", " + isBroken + ")",
                        () -> model.line(line, isBroken), () -> real.line(line, isBroken));
            case 4:
                int patience = random.nextInt(2) == 0 ? number(1, 3) : number(1, 6);
                boolean isGuarded = random.nextInt(2) == 0;
                return same("patience(" + patience + ", " + isGuarded + ")",
                        () -> model.patience(patience, isGuarded),
                        () -> real.patience(patience, isGuarded));
            case 5:
                return tellChord();
            default:
                int layer = number(0, 2);
                int code = random.nextInt(3) == 0 ? number(26, 31) : number(0, 31);
                return same("code(" + layer + ", " + k + ", " + code + ")",
                        () -> model.code(layer, k, code), () -> real.code(layer, k, code));
        }
    }

    private String tellChord() {
        int keys = someKeys(random.nextInt(12) == 0 ? 4 : 2 + random.nextInt(2));
        int letter = number(0, 25);
        return same("chord(" + keys + ", " + letter + ")",
                () -> model.chord(keys, letter), () -> real.chord(keys, letter));
    }

    private String tellKey(int k) {
        boolean isFitted = random.nextInt(8) > 0;
        boolean hasDiode = random.nextInt(3) == 0;
        int bounce = random.nextInt(2) == 0 ? 0 : number(0, 5);
        int stuck = random.nextInt(7) > 0 ? 0 : number(0, 2);
        String call = "key(" + k + ", " + isFitted + ", " + hasDiode + ", " + bounce + ", "
                + stuck + ")";
        return same(call, () -> model.key(k, isFitted, hasDiode, bounce, stuck),
                () -> real.key(k, isFitted, hasDiode, bounce, stuck));
    }

    private String ask(int i) {
        int k = number(0, size - 1);
        switch (random.nextInt(14)) {
            case 0:
            case 1:
                int what = number(0, 10);
                return same("of(" + k + ", " + what + ")", () -> model.of(k, what),
                        () -> real.of(k, what));
            case 2:
                int whatSet = number(0, 5);
                return same("set(" + whatSet + ")", () -> model.set(whatSet),
                        () -> real.set(whatSet));
            case 3:
                int whatBoard = number(0, 14);
                return same("board(" + whatBoard + ")", () -> model.board(whatBoard),
                        () -> real.board(whatBoard));
            case 4:
                return same("text()", model::text, real::text);
            case 5:
                int row = number(0, model.rows - 1);
                return same("picture(" + row + ")", () -> model.picture(row),
                        () -> real.picture(row));
            case 6:
                return same("lag()", model::lag, real::lag);
            case 7:
                int closed = someKeys(random.nextInt(10));
                return same("seen(" + closed + ")", () -> model.seen(closed),
                        () -> real.seen(closed));
            case 8:
                int exact = someKeys(random.nextInt(10));
                return same("exact(" + exact + ")", () -> model.exact(exact),
                        () -> real.exact(exact));
            case 9:
                return size > 16 && i % 8 > 0 ? null : unclear();
            case 10:
                return same("wouldHelp(" + k + ")", () -> model.wouldHelp(k),
                        () -> real.wouldHelp(k));
            case 11:
                return same("wouldGhost(" + k + ")", () -> model.wouldGhost(k),
                        () -> real.wouldGhost(k));
            case 12:
                return random.nextInt(3) > 0 ? null
                        : same("call()", model::call, real::call);
            default:
                return size > 12 && i % 12 > 0 ? same("isSound()", model::isSound, real::isSound)
                        : same("digest()", model::digest, real::digest);
        }
    }

    private String unclear() {
        int many = number(1, size > 16 ? 3 : 4);
        return same("unclear(" + many + ")", () -> model.unclear(many),
                () -> real.unclear(many));
    }
}
