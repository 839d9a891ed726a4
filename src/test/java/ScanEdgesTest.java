/** Each sentence of the document's part 3, and of the promises about scans, that names an edge. */
public final class ScanEdgesTest extends Trial {
    public static void main(String[] args) {
        ScanEdgesTest test = new ScanEdgesTest();
        test.held();
        test.closed();
        test.patience();
        test.guard();
        test.lags();
        test.scans();
        test.told();
        test.check.end("ScanEdgesTest");
    }

    private void held() {
        check.sentence("hold returns how many are HELD then: none to all", this::manyHeld);
        check.sentence("if it is so already, nothing happens", this::heldAlready);
        check.sentence("key: if it is HELD and not FITTED any more, it is lifted behind that",
                this::liftedByKey);
        check.sentence("key: and BOUNCES so by the new BOUNCE", this::liftedBounces);
        check.sentence("key: otherwise for how many SCANS it BOUNCES still does not change",
                this::bouncesStill);
    }

    private void closed() {
        check.sentence("it BOUNCES for as many SCANS as its BOUNCE", this::bouncesSoLong);
        check.sentence("KEY by KEY that still BOUNCES one number is DRAWN", this::drawnKeyByKey);
        check.sentence("any other KEY is CLOSED, if it is HELD", this::closedIfHeld);
        check.sentence("not FITTED or STUCK open is never CLOSED", this::neverClosed);
        check.sentence("FITTED and STUCK closed is always", this::alwaysClosed);
        check.sentence("these do not DRAW, and BOUNCE no less", this::drawNot);
    }

    private void patience() {
        check.sentence("KEYS are UP at first", this::upAtFirst);
        check.sentence("PATIENCE is 1 to 6; 2 at first", this::patienceRange);
        check.sentence("COUNT: as it is PATIENCE, the KEY becomes DOWN or UP, COUNT is 0",
                this::countToPatience);
        check.sentence("COUNT: how many SCANS in a row", this::inARow);
        check.sentence("as COUNT is PATIENCE or more", this::orMore);
        check.sentence("patience returns PATIENCE before", this::patienceBefore);
    }

    private void guard() {
        check.sentence("the GUARD is off at first", this::guardOff);
        check.sentence("as long as it could be a GHOST", this::couldBeGhost);
        check.sentence("COUNT is PATIENCE then, and goes on from there", this::guardedCount);
        check.sentence("a guarded KEY does not become DOWN, but UP it does", this::guardedUp);
    }

    private void lags() {
        check.sentence("LAG: how many SCANS went by, with that one", this::lagWithThatOne);
        check.sentence("LAG: from its being held or lifted last to its last EVENT",
                this::lagFromTheLast);
        check.sentence("LAG: 0, if there was none since, or it never was held", this::lagNone);
        check.sentence("the greatest LAG: 2000 SCANS", this::lagGreatest);
        check.sentence("lag(): 0.0 without one", this::meanOfNone);
        check.sentence("lag(): of all KEYS that had an EVENT", this::meanOfThose);
    }

    private void scans() {
        check.sentence("SCANS are 2000 at most", this::scansAtMost);
        check.sentence("scans is 1 to 50", this::scansAtOnce);
        check.sentence("scan returns how many EVENTS there were in them", this::manyEvents);
    }

    private void told() {
        check.sentence("of: what is 0 to 10", this::whatOf);
        check.sentence("set: what is 0 to 5; 0 ahead of the first SCAN for 0 to 2",
                this::whatSet);
        check.sentence("board: what is 0 to 14", this::whatBoard);
        check.sentence("picture: the first that holds", this::firstSign);
        check.sentence("picture: a row", this::rowsOfPicture);
    }

    private void manyHeld() {
        Rowscan x = new Rowscan();
        x.lay(5, 5);
        due("one lifted of none", 0, () -> x.hold(0, false));
        for (int i = 0; i < 25; i++) {
            int key = i;
            due("held " + key, key + 1, () -> x.hold(key, true));
        }
        due("all", all(25), () -> x.set(4));
        due("one of all again", 25, () -> x.hold(24, true));
        for (int i = 0; i < 25; i++) {
            int key = i;
            due("lifted " + key, 24 - key, () -> x.hold(key, false));
        }
        due("none", 0, () -> x.set(4));
        check.refuses("a KEY more", INDEX, () -> x.hold(25, true));
        check.refuses("a KEY less", INDEX, () -> x.hold(-1, true));
        x.key(24, false, false, 0, 0);
        check.refuses("not FITTED", STATE, () -> x.hold(24, true));
        check.refuses("not FITTED, to lift", STATE, () -> x.hold(24, false));
        x.key(24, true, false, 0, 0);
        due("FITTED again", 1, () -> x.hold(24, true));
    }

    private void heldAlready() {
        alike("lifted at first", x -> x.key(0, true, false, 3, 0), x -> {
            x.key(0, true, false, 3, 0);
            x.hold(0, false);
        });
        alike("held", x -> {
            x.key(0, true, false, 3, 0);
            x.hold(0, true);
            x.scan(2);
        }, x -> {
            x.key(0, true, false, 3, 0);
            x.hold(0, true);
            x.scan(2);
            x.hold(0, true);
        });
        alike("lifted", x -> {
            x.key(0, true, false, 3, 0);
            x.hold(0, true);
            x.hold(0, false);
            x.scan(1);
        }, x -> {
            x.key(0, true, false, 3, 0);
            x.hold(0, true);
            x.hold(0, false);
            x.scan(1);
            x.hold(0, false);
        });
    }

    private void liftedByKey() {
        Rowscan x = quick(2, 2);
        press(x, 0, 1);
        due("told and FITTED", 4, () -> x.key(0, true, true, 0, 2));
        due("is HELD on", 3, () -> x.set(4));
        due("not FITTED", 3, () -> x.key(0, false, false, 0, 0));
        due("is lifted", 2, () -> x.set(4));
        due("FITTED again", 4, () -> x.key(0, true, false, 0, 0));
        due("is lifted still", 2, () -> x.set(4));
        x.scan(3);
        due("LAG from its being lifted so", 1, () -> x.of(0, 9));
        alike("not FITTED, and was not HELD", y -> {
            y.key(0, true, false, 4, 0);
            y.key(0, false, false, 2, 0);
        }, y -> y.key(0, false, false, 2, 0));
    }

    private void liftedBounces() {
        for (int i = 0; i <= 5; i++) {
            int bounce = i;
            Rowscan x = quick(2, 2);
            x.key(0, true, false, 3, 0);
            press(x, 0);
            x.key(0, false, false, bounce, 0);
            due("BOUNCE " + bounce, bounce, () -> x.of(0, 5));
        }
    }

    private void bouncesStill() {
        Rowscan x = quick(2, 2);
        x.key(0, true, false, 4, 0);
        press(x, 0);
        x.key(0, true, false, 1, 0);
        due("FITTED", 3, () -> x.of(0, 5));
        lift(x, 0);
        due("lifted behind that, by the new one", 0, () -> x.of(0, 5));
        x.key(0, true, false, 4, 0);
        due("told as it does not", 0, () -> x.of(0, 5));
        press(x, 0);
        x.hold(0, false);
        x.key(0, false, false, 2, 0);
        due("not FITTED, but not HELD", 4, () -> x.of(0, 5));
        x.key(0, false, false, 5, 0);
        due("not FITTED again", 4, () -> x.of(0, 5));
    }

    private void bouncesSoLong() {
        for (int i = 0; i <= 5; i++) {
            int bounce = i;
            Rowscan x = quick(2, 2);
            x.key(0, true, false, bounce, 0);
            x.hold(0, true);
            for (int j = 0; j < bounce; j++) {
                int rest = bounce - j;
                due("held, BOUNCES " + rest + " of " + bounce, rest, () -> x.of(0, 5));
                x.scan(1);
                int closed = luckAfter(j + 1) % 2;
                due("held, CLOSED at " + rest + " of " + bounce, closed, () -> x.set(0));
            }
            due("held, no more of " + bounce, 0, () -> x.of(0, 5));
            x.scan(1);
            due("held, CLOSED behind " + bounce, 1, () -> x.set(0));
            due("held, LUCK behind " + bounce, luckAfter(bounce), () -> x.board(4));
            x.hold(0, false);
            due("lifted, BOUNCES " + bounce, bounce, () -> x.of(0, 5));
            if (bounce > 0) {
                x.scan(bounce);
            }
            due("lifted, no more of " + bounce, 0, () -> x.of(0, 5));
            x.scan(1);
            due("lifted, not CLOSED behind " + bounce, 0, () -> x.set(0));
            due("lifted, LUCK behind " + bounce, luckAfter(2 * bounce), () -> x.board(4));
        }
    }

    private void drawnKeyByKey() {
        Rowscan x = new Rowscan();
        x.lay(5, 5);
        for (int key = 24; key >= 0; key--) {
            x.key(key, true, false, 2, 0);
            x.hold(key, true);
        }
        for (int scan = 0; scan < 2; scan++) {
            int closed = 0;
            for (int key = 0; key < 25; key++) {
                closed += luckAfter(25 * scan + key + 1) % 2 << key;
            }
            int want = closed;
            x.scan(1);
            due("CLOSED at SCAN " + scan, want, () -> x.set(0));
        }
        due("LUCK behind fifty", luckAfter(50), () -> x.board(4));
        x.scan(1);
        due("all HELD", all(25), () -> x.set(0));
        due("LUCK as before", luckAfter(50), () -> x.board(4));
    }

    private void closedIfHeld() {
        Rowscan x = quick(2, 2);
        x.scan(1);
        due("none", 0, () -> x.set(0));
        press(x, 0, 3);
        due("two", 9, () -> x.set(0));
        lift(x, 0);
        due("one", 8, () -> x.set(0));
        lift(x, 3);
        due("none again", 0, () -> x.set(0));
        due("without a draw", 23, () -> x.board(4));
    }

    private void neverClosed() {
        Rowscan x = quick(2, 2);
        x.key(0, true, false, 0, 1);
        press(x, 0);
        due("STUCK open and HELD", 0, () -> x.set(0));
        x.key(0, true, false, 0, 0);
        x.scan(1);
        due("HELD", 1, () -> x.set(0));
        x.key(1, false, false, 0, 2);
        x.scan(1);
        due("STUCK closed and not FITTED", 1, () -> x.set(0));
        x.hold(2, true);
        x.key(2, false, false, 3, 0);
        x.scan(4);
        due("not FITTED as it BOUNCES", 1, () -> x.set(0));
        x.key(2, true, false, 3, 1);
        x.scan(4);
        due("STUCK open as it BOUNCES", 1, () -> x.set(0));
    }

    private void alwaysClosed() {
        Rowscan x = quick(2, 2);
        x.key(0, true, false, 5, 2);
        x.scan(1);
        due("not HELD", 1, () -> x.set(0));
        x.hold(0, true);
        for (int i = 0; i < 3; i++) {
            x.scan(1);
            due("as it would BOUNCE", 1, () -> x.set(0));
        }
        x.hold(0, false);
        x.scan(1);
        due("lifted", 1, () -> x.set(0));
        x.line(0, true);
        x.scan(1);
        due("on a BROKEN LINE", 1, () -> x.set(0));
        due("is not SEEN there", 0, () -> x.set(1));
    }

    private void drawNot() {
        for (int i = 0; i < 3; i++) {
            int kind = i;
            Rowscan x = quick(2, 2);
            x.key(0, true, false, 4, 0);
            press(x, 0);
            x.hold(0, false);
            // not FITTED, STUCK open, STUCK closed
            x.key(0, kind > 0, false, 1, kind);
            x.scan(50);
            due("BOUNCES still, kind " + kind, 4, () -> x.of(0, 5));
            due("LUCK, kind " + kind, luckAfter(1), () -> x.board(4));
            x.key(0, true, false, 0, 0);
            x.scan(3);
            due("goes on, kind " + kind, 1, () -> x.of(0, 5));
            x.scan(2);
            due("to its end, kind " + kind, 0, () -> x.of(0, 5));
            due("LUCK at its end, kind " + kind, luckAfter(5), () -> x.board(4));
        }
    }

    private void upAtFirst() {
        Rowscan x = new Rowscan();
        due("DOWN", 0, () -> x.set(3));
        due("EVENTS of nothing", 0, () -> x.scan(50));
        due("DOWN behind that", 0, () -> x.set(3));
    }

    private void patienceRange() {
        Rowscan x = new Rowscan();
        due("at first", 2, () -> x.board(5));
        due("1", 2, () -> x.patience(1, false));
        check.refuses("0", ARGUMENT, () -> x.patience(0, false));
        due("6", 1, () -> x.patience(6, false));
        check.refuses("7", ARGUMENT, () -> x.patience(7, false));
        due("told", 6, () -> x.board(5));
        Rowscan y = new Rowscan();
        y.hold(0, true);
        due("one SCAN at first", 0, () -> y.scan(1));
        due("two SCANS at first", 1, () -> y.scan(1));
    }

    private void countToPatience() {
        for (int i = 1; i <= 6; i++) {
            int patience = i;
            Rowscan x = new Rowscan();
            x.patience(patience, false);
            x.hold(0, true);
            for (int j = 1; j < patience; j++) {
                int count = j;
                due("no EVENT at " + count + " of " + patience, 0, () -> x.scan(1));
                due("COUNT is " + count + " of " + patience, count, () -> x.of(0, 7));
                due("UP at " + count + " of " + patience, 0, () -> x.of(0, 6));
            }
            due("an EVENT at " + patience, 1, () -> x.scan(1));
            due("COUNT behind it, " + patience, 0, () -> x.of(0, 7));
            due("DOWN at " + patience, 1, () -> x.of(0, 6));
            due("no EVENT as it is SEEN and DOWN, " + patience, 0, () -> x.scan(50));
            due("no COUNT then, " + patience, 0, () -> x.of(0, 7));
            x.hold(0, false);
            for (int j = 1; j < patience; j++) {
                int count = j;
                due("no EVENT lifted at " + count + " of " + patience, 0, () -> x.scan(1));
                due("COUNT lifted is " + count + " of " + patience, count, () -> x.of(0, 7));
            }
            due("an EVENT lifted at " + patience, 1, () -> x.scan(1));
            due("UP at " + patience, 0, () -> x.of(0, 6));
            due("EVENTS of " + patience, 2, () -> x.of(0, 10));
        }
    }

    private void inARow() {
        Rowscan x = new Rowscan();
        x.patience(3, false);
        for (int i = 0; i < 3; i++) {
            x.hold(0, true);
            due("two in a row", 0, () -> x.scan(2));
            due("COUNT of two", 2, () -> x.of(0, 7));
            x.hold(0, false);
            due("one between", 0, () -> x.scan(1));
            due("COUNT of none", 0, () -> x.of(0, 7));
        }
        x.hold(0, true);
        due("three in a row", 1, () -> x.scan(3));
        x.hold(0, false);
        x.scan(2);
        x.hold(0, true);
        x.scan(1);
        due("COUNT, SEEN and DOWN again", 0, () -> x.of(0, 7));
        x.hold(0, false);
        due("two lifted in a row", 0, () -> x.scan(2));
        due("three lifted in a row", 1, () -> x.scan(1));
    }

    private void orMore() {
        for (int i = 1; i <= 6; i++) {
            int patience = i;
            Rowscan x = new Rowscan();
            x.patience(6, false);
            x.hold(0, true);
            x.scan(5);
            x.patience(patience, false);
            due("six are enough for " + patience, 1, () -> x.scan(1));
            Rowscan y = new Rowscan();
            y.patience(6, false);
            y.hold(0, true);
            y.scan(4);
            y.patience(patience, false);
            due("five for " + patience, patience == 6 ? 0 : 1, () -> y.scan(1));
        }
    }

    private void patienceBefore() {
        Rowscan x = new Rowscan();
        due("at first", 2, () -> x.patience(6, false));
        due("then", 6, () -> x.patience(1, true));
        due("and then", 1, () -> x.patience(1, false));
        check.refuses("7", ARGUMENT, () -> x.patience(7, true));
        due("behind a refused one", 1, () -> x.patience(3, true));
    }

    private static Rowscan corners(int patience, boolean isGuarded) {
        Rowscan x = new Rowscan();
        x.lay(2, 2);
        x.patience(patience, isGuarded);
        holdAll(x, true, 0, 1, 2);
        return x;
    }

    private void guardOff() {
        Rowscan x = new Rowscan();
        due("at first", 0, () -> x.board(6));
        holdAll(x, true, 0, 1, 3);
        due("three corners, and a GHOST", 4, () -> x.scan(2));
        x.patience(2, true);
        due("on", 1, () -> x.board(6));
        x.lay(3, 3);
        due("laid anew", 0, () -> x.board(6));
    }

    private void couldBeGhost() {
        Rowscan x = corners(1, true);
        due("four corners are SEEN", 0, () -> x.scan(1));
        x.hold(2, false);
        due("two of a row", 2, () -> x.scan(1));
        Rowscan y = quick(2, 2);
        y.patience(1, true);
        giveDiodes(y, 0, 1, 2, 3);
        holdAll(y, true, 0, 1, 2, 3);
        due("four corners with DIODES", 4, () -> y.scan(1));
        Rowscan z = quick(3, 3);
        z.patience(1, true);
        holdAll(z, true, 0, 1, 3, 8);
        due("one beside four corners", 1, () -> z.scan(1));
        due("it is that", 1 << 8, () -> z.set(3));
        // KEYS that are CLOSED and not SEEN do not make a GHOST
        Rowscan cut = quick(2, 2);
        cut.patience(1, true);
        cut.line(1, true);
        holdAll(cut, true, 0, 1, 2, 3);
        due("two corners and a BROKEN row", 2, () -> cut.scan(1));
    }

    private void guardedCount() {
        for (int i = 1; i <= 6; i++) {
            int patience = i;
            Rowscan x = corners(patience, true);
            due("none with " + patience, 0, () -> x.scan(patience));
            for (int j = 0; j < 3; j++) {
                due("COUNT is " + patience, patience, () -> x.of(0, 7));
                due("COUNT of the GHOST is " + patience, patience, () -> x.of(3, 7));
                x.scan(1);
            }
            x.patience(patience, false);
            due("at once without the GUARD, " + patience, 4, () -> x.scan(1));
        }
        Rowscan x = corners(2, true);
        x.scan(4);
        x.patience(5, false);
        due("from 2 to 4", 0, () -> x.scan(2));
        due("COUNT 4", 4, () -> x.of(0, 7));
        due("to 5", 4, () -> x.scan(1));
        Rowscan y = corners(5, true);
        y.scan(7);
        y.patience(2, true);
        due("less PATIENCE", 0, () -> y.scan(1));
        due("COUNT is that", 2, () -> y.of(0, 7));
        y.patience(3, false);
        due("and goes on from there", 4, () -> y.scan(1));
    }

    private void guardedUp() {
        Rowscan x = corners(1, false);
        due("off", 4, () -> x.scan(1));
        x.patience(1, true);
        due("on, they stay DOWN", 0, () -> x.scan(3));
        x.hold(2, false);
        due("one is lifted, and the GHOST is gone", 2, () -> x.scan(1));
        due("DOWN", 3, () -> x.set(3));
        // by 0, 1 and 2 one sees 3 also, so 2 could be a ghost now
        x.hold(2, true);
        due("held again", 0, () -> x.scan(1));
        due("DOWN as before", 3, () -> x.set(3));
    }

    private void lagWithThatOne() {
        for (int i = 1; i <= 6; i++) {
            int patience = i;
            Rowscan x = new Rowscan();
            x.patience(patience, false);
            x.scan(10);
            x.hold(4, true);
            x.scan(50);
            due("held, PATIENCE " + patience, patience, () -> x.of(4, 9));
            x.hold(4, false);
            x.scan(50);
            due("lifted, PATIENCE " + patience, patience, () -> x.of(4, 9));
        }
    }

    private void lagFromTheLast() {
        Rowscan x = new Rowscan();
        x.hold(0, true);
        x.scan(1);
        x.hold(0, false);
        x.hold(0, true);
        x.scan(1);
        due("from being held again ahead of this SCAN", 1, () -> x.of(0, 9));
        x.line(0, true);
        x.scan(5);
        due("to the last EVENT", 3, () -> x.of(0, 9));
        x.line(0, false);
        x.scan(5);
        due("to the very last EVENT", 8, () -> x.of(0, 9));
        x.hold(0, true);
        due("held already", 8, () -> x.of(0, 9));
    }

    private void lagNone() {
        Rowscan x = quick(2, 2);
        due("never held, no EVENT", 0, () -> x.of(0, 9));
        x.key(0, true, false, 0, 2);
        x.scan(1);
        due("never held, an EVENT", 0, () -> x.of(0, 9));
        x.hold(0, true);
        due("held at the SCAN of its EVENT", 0, () -> x.of(0, 9));
        x.scan(9);
        due("held, none since", 0, () -> x.of(0, 9));
        x.key(0, true, false, 0, 1);
        x.scan(1);
        due("held, one since", 10, () -> x.of(0, 9));
        x.hold(0, false);
        due("lifted, none since", 0, () -> x.of(0, 9));
        press(x, 1);
        due("held ahead of the first", 1, () -> x.of(1, 9));
    }

    private static void scanOften(Rowscan x, int fifties) {
        for (int i = 0; i < fifties; i++) {
            x.scan(50);
        }
    }

    private void lagGreatest() {
        Rowscan x = quick(2, 2);
        x.line(0, true);
        x.hold(0, true);
        scanOften(x, 39);
        x.scan(49);
        due("at SCAN 1999", 0, () -> x.of(0, 9));
        x.line(0, false);
        due("an EVENT at SCAN 2000", 1, () -> x.scan(1));
        due("LAG", 2000, () -> x.of(0, 9));
        due("the mean", 2000.0, x::lag);
    }

    private void meanOfNone() {
        Rowscan x = new Rowscan();
        due("new", 0.0, x::lag);
        x.hold(0, true);
        x.scan(1);
        due("SEEN, no EVENT yet", 0.0, x::lag);
        x.scan(1);
        due("one", 2.0, x::lag);
        x.lay(3, 3);
        due("anew", 0.0, x::lag);
    }

    private void meanOfThose() {
        Rowscan x = quick(2, 2);
        press(x, 0);
        x.hold(1, true);
        x.patience(2, false);
        x.scan(2);
        due("two of four", 1.5, x::lag);
        x.key(1, false, false, 0, 0);
        due("one that is not FITTED any more is lifted", 0.5, x::lag);
        x.scan(2);
        due("and goes UP", 1.5, x::lag);
        x.key(3, true, false, 0, 2);
        x.scan(2);
        due("one that never was held", 1.0, x::lag);
    }

    private void scansAtMost() {
        Rowscan x = new Rowscan();
        scanOften(x, 39);
        due("1950", 1950, () -> x.board(2));
        due("to 2000", 0, () -> x.scan(50));
        due("2000", 2000, () -> x.board(2));
        for (int scans : new int[] {1, 2, 50}) {
            check.refuses("more by " + scans, STATE, () -> x.scan(scans));
        }
        check.refuses("51 of them", ARGUMENT, () -> x.scan(51));
        check.refuses("none of them", ARGUMENT, () -> x.scan(0));
        due("2000 as before", 2000, () -> x.board(2));
        x.lay(2, 2);
        due("anew", 0, () -> x.scan(50));
        Rowscan y = new Rowscan();
        scanOften(y, 39);
        y.scan(1);
        check.refuses("50 of 1951", STATE, () -> y.scan(50));
        due("1951 as before", 1951, () -> y.board(2));
        due("49 of 1951", 0, () -> y.scan(49));
        check.refuses("1 of 2000", STATE, () -> y.scan(1));
    }

    private void scansAtOnce() {
        Rowscan x = new Rowscan();
        due("1", 0, () -> x.scan(1));
        due("50", 0, () -> x.scan(50));
        due("51 in all", 51, () -> x.board(2));
        for (int scans : new int[] {0, 51, -1, Integer.MIN_VALUE, Integer.MAX_VALUE}) {
            check.refuses("scan(" + scans + ")", ARGUMENT, () -> x.scan(scans));
        }
        due("SCANS as before", 51, () -> x.board(2));
    }

    private void manyEvents() {
        Rowscan x = quick(5, 5);
        due("none", 0, () -> x.scan(50));
        for (int key = 0; key < 25; key++) {
            x.hold(key, true);
        }
        due("all at once", 25, () -> x.scan(1));
        due("none more", 0, () -> x.scan(1));
        for (int key = 0; key < 25; key++) {
            x.hold(key, false);
        }
        due("all UP in fifty", 25, () -> x.scan(50));
        due("EVENTS in all", 50, () -> x.board(3));
        due("EVENTS of the last KEY", 2, () -> x.of(24, 10));
        // two draws that are even and odd: it goes DOWN at the second, UP again as it is lifted
        Rowscan y = quick(2, 2);
        y.key(0, true, false, 4, 0);
        y.hold(0, true);
        int changes = 0;
        for (int draw = 1; draw <= 4; draw++) {
            int before = draw == 1 ? 0 : luckAfter(draw - 1) % 2;
            changes += luckAfter(draw) % 2 == before ? 0 : 1;
        }
        int want = changes;
        due("as its contact BOUNCES", want, () -> y.scan(4));
    }

    private void whatOf() {
        Rowscan x = new Rowscan();
        int[] facts = {1, 0, 0, 0, 0, 0, 0, 0, NONE, 0, 0};
        for (int i = 0; i <= 10; i++) {
            int what = i;
            due("of(8, " + what + ")", facts[what], () -> x.of(8, what));
        }
        for (int what : new int[] {-1, 11, Integer.MIN_VALUE, Integer.MAX_VALUE}) {
            check.refuses("of(8, " + what + ")", ARGUMENT, () -> x.of(8, what));
        }
        for (int key : new int[] {-1, 9, 32, Integer.MIN_VALUE, Integer.MAX_VALUE}) {
            check.refuses("of(" + key + ", 0)", INDEX, () -> x.of(key, 0));
            check.refuses("of(" + key + ", 11)", INDEX, () -> x.of(key, 11));
        }
    }

    private void whatSet() {
        Rowscan x = corners(1, false);
        int[] ahead = {0, 0, 0, 0, 7, 15};
        int[] behind = {7, 15, 8, 15, 7, 15};
        for (int i = 0; i <= 5; i++) {
            int what = i;
            due("ahead of the first SCAN, " + what, ahead[what], () -> x.set(what));
        }
        x.scan(1);
        for (int i = 0; i <= 5; i++) {
            int what = i;
            due("behind it, " + what, behind[what], () -> x.set(what));
        }
        for (int what : new int[] {-1, 6, Integer.MIN_VALUE, Integer.MAX_VALUE}) {
            check.refuses("set(" + what + ")", ARGUMENT, () -> x.set(what));
        }
        x.lay(2, 2);
        for (int i = 0; i <= 3; i++) {
            int what = i;
            due("ahead of the first SCAN anew, " + what, 0, () -> x.set(what));
        }
    }

    private void whatBoard() {
        Rowscan x = new Rowscan();
        int[] facts = {3, 3, 0, 0, 23, 2, 0, 0, 0, 3, 0, 0, 0, 0, 0};
        for (int i = 0; i <= 14; i++) {
            int what = i;
            due("board(" + what + ")", facts[what], () -> x.board(what));
        }
        for (int what : new int[] {-1, 15, Integer.MIN_VALUE, Integer.MAX_VALUE}) {
            check.refuses("board(" + what + ")", ARGUMENT, () -> x.board(what));
        }
    }

    private void firstSign() {
        Rowscan x = quick(2, 5);
        press(x, 0, 1, 3);
        x.hold(1, false);
        x.hold(2, true);
        x.key(3, false, false, 0, 0);
        due("DOWN and HELD, DOWN, HELD, DOWN and not FITTED, other", "##+ .", () -> x.picture(0));
        due("the other row", ".....", () -> x.picture(1));
        x.key(3, true, false, 0, 0);
        due("FITTED again", "##+#.", () -> x.picture(0));
    }

    private void rowsOfPicture() {
        for (int i = 2; i <= 5; i++) {
            int rows = i;
            Rowscan x = quick(rows, 7 - rows);
            press(x, rows * (7 - rows) - 1);
            due("the first of " + rows, ".".repeat(7 - rows), () -> x.picture(0));
            due("the last of " + rows, ".".repeat(6 - rows) + "#", () -> x.picture(rows - 1));
            for (int row : new int[] {-1, rows, Integer.MIN_VALUE, Integer.MAX_VALUE}) {
                check.refuses("row " + row + " of " + rows, INDEX, () -> x.picture(row));
            }
        }
    }
}
