/** Each promise of the document by its number: ordinary inputs, edges and wrong inputs. */
public final class PromisesTest extends Trial {
    public static void main(String[] args) {
        PromisesTest test = new PromisesTest();
        test.promise1();
        test.promise2();
        test.layAfterTyping();
        test.promise3();
        test.promise4();
        test.promise5();
        test.promise6();
        test.promise7();
        test.chordEvents();
        test.promise8();
        test.promise9();
        test.bounces();
        test.guard();
        test.promise10();
        test.promise11();
        test.promise12();
        test.promise13();
        test.layers();
        test.promise14();
        test.promise15();
        test.promise16();
        test.promise17();
        test.promise18();
        test.promise19();
        test.promise20();
        test.promise21();
        test.promise22();
        test.promise23();
        test.promise24();
        test.check.end("PromisesTest");
    }

    /** A call that is refused with just this exception, and changes nothing by that. */
    private void refuses(Rowscan x, String what, Class<? extends RuntimeException> kind,
            Check.Call call) {
        long before = x.digest();
        check.refuses(what, kind, call);
        due(what + " changes nothing", before, x::digest);
    }

    private void boardIs(String when, Rowscan x, int... want) {
        for (int i = 0; i < want.length; i++) {
            int what = i;
            due(when + " board(" + what + ")", want[what], () -> x.board(what));
        }
    }

    private void promise1() {
        Rowscan x = new Rowscan();
        boardIs("1: new", x, 3, 3, 0, 0, 23, 2, 0, 0, 0, 3, 0, 0, 0, 0, 0);
        int[] sets = {0, 0, 0, 0, 0, 511};
        for (int i = 0; i < sets.length; i++) {
            int what = i;
            due("1: new set(" + what + ")", sets[what], () -> x.set(what));
        }
        int[] facts = {1, 0, 0, 0, 0, 0, 0, 0, -1, 0, 0};
        for (int i = 0; i < 9 * facts.length; i++) {
            int key = i / facts.length;
            int what = i % facts.length;
            due("1: new of(" + key + ", " + what + ")", facts[what], () -> x.of(key, what));
        }
        due("1: new text()", "", x::text);
        due("1: new lag()", 0.0, x::lag);
        due("1: new picture(2)", "...", () -> x.picture(2));
        due("1: two are apart", 0, () -> {
            new Rowscan().hold(0, true);
            return new Rowscan().set(4);
        });
    }

    private void promise2() {
        Rowscan x = quick(3, 3);
        x.key(1, true, true, 3, 2);
        x.key(2, false, false, 4, 1);
        x.line(0, true);
        x.line(4, true);
        x.code(0, 0, 30);
        x.code(1, 3, 1);
        x.code(2, 3, 2);
        x.chord(9, 4);
        x.call();
        x.line(0, false);
        x.key(0, true, false, 2, 0);
        x.patience(4, true);
        press(x, 0);
        x.scan(9);
        int luck = (61 * ((61 * 23 + 35) % 128) + 35) % 128;
        due("2: lay(2, 5)", 10, () -> x.lay(2, 5));
        boardIs("2: laid", x, 2, 5, 0, 0, luck, 2, 0, 0, 0, 3, 0, 0, 0, 0, 1);
        int[] facts = {1, 0, 0, 0, 0, 0, 0, 0, -1, 0, 0};
        for (int i = 0; i < 10 * facts.length; i++) {
            int key = i / facts.length;
            int what = i % facts.length;
            due("2: laid of(" + key + ", " + what + ")", facts[what], () -> x.of(key, what));
        }
        due("2: laid set(0)", 0, () -> x.set(0));
        due("2: laid set(1)", 0, () -> x.set(1));
        due("2: laid text()", "", x::text);
        due("2: laid code(0, 0, 0)", 0, () -> x.code(0, 0, 0));
        due("2: laid code(1, 3, 31)", 31, () -> x.code(1, 3, 31));
        due("2: laid code(2, 3, 31)", 31, () -> x.code(2, 3, 31));
        due("2: laid chord(3, 1)", 0, () -> x.chord(3, 1));
        due("2: lay(5, 5)", 25, () -> x.lay(5, 5));
        due("2: lay(5, 2)", 10, () -> x.lay(5, 2));
        due("2: lay(2, 2)", 4, () -> x.lay(2, 2));
        int[][] wrong = {{1, 3}, {6, 3}, {3, 1}, {3, 6}, {-2, -2}, {1, 6},
            {Integer.MAX_VALUE, 2}, {2, Integer.MIN_VALUE}};
        for (int[] size : wrong) {
            refuses(x, "2: lay(" + size[0] + ", " + size[1] + ")", ARGUMENT,
                    () -> x.lay(size[0], size[1]));
        }
    }

    private void layAfterTyping() {
        Rowscan x = new Rowscan();
        for (int round = 0; round < 2; round++) {
            String when = "2: round " + round + ", ";
            x.patience(1, false);
            x.chord(3, 23);
            x.key(1, true, false, 2, 0);
            press(x, 0);
            x.key(1, true, false, 0, 0);
            press(x, 1);
            due(when + "a chord of events at the same scans", "abx", x::text);
            // four signs each: by keys 0 and 1, which are held, key 2 is a ghost then
            for (int i = 0; i < 15; i++) {
                tap(x, 6, 7, 8);
            }
            due(when + "lost", 3, () -> x.board(13));
            due(when + "typed", 1, () -> x.board(12));
            x.key(1, true, false, 2, 0);
            x.hold(1, false);
            x.patience(3, false);
            x.scan(1);
            x.lay(3, 3);
            boardIs(when + "laid", x, 3, 3, 0, 0, x.board(4), 2, 0, 0, 0, 3, 0, 0, 0, 0, 0);
            due(when + "no text", "", x::text);
            due(when + "no count", 0, () -> x.of(1, 7));
            due(when + "no bounce", 0, () -> x.of(1, 5));
            due(when + "no lag", 0, () -> x.of(8, 9));
        }
    }

    private void promise3() {
        Rowscan x = quick(2, 3);
        due("3: not fitted", 5, () -> x.key(5, false, false, 0, 0));
        due("3: not fitted again", 5, () -> x.key(5, false, true, 5, 2));
        due("3: another", 4, () -> x.key(0, false, false, 0, 0));
        due("3: fitted", 5, () -> x.key(0, true, false, 0, 0));
        due("3: told diode", 1, () -> x.of(5, 1));
        due("3: told bounce", 5, () -> x.of(5, 2));
        due("3: told stuck", 2, () -> x.of(5, 3));
        x.key(1, true, false, 2, 0);
        x.hold(1, true);
        x.key(1, true, false, 5, 0);
        due("3: bounces on as before", 2, () -> x.of(1, 5));
        due("3: held on", 1, () -> x.of(1, 4));
        x.scan(1);
        due("3: a key less is fitted", 4, () -> x.key(1, false, false, 4, 0));
        due("3: lifted by that", 0, () -> x.of(1, 4));
        due("3: bounces by the new bounce", 4, () -> x.of(1, 5));
        x.key(1, false, false, 3, 0);
        due("3: is lifted once", 4, () -> x.of(1, 5));
        x.scan(3);
        due("3: what is not fitted bounces no less", 4, () -> x.of(1, 5));
        refuses(x, "3: key(6)", INDEX, () -> x.key(6, true, true, 0, 0));
        refuses(x, "3: key(-1)", INDEX, () -> x.key(-1, true, true, 9, 9));
        refuses(x, "3: key(32)", INDEX, () -> x.key(32, true, true, 0, 0));
        refuses(x, "3: bounce -1", ARGUMENT, () -> x.key(2, false, true, -1, 0));
        refuses(x, "3: bounce 6", ARGUMENT, () -> x.key(2, false, true, 6, 0));
        refuses(x, "3: stuck -1", ARGUMENT, () -> x.key(2, false, true, 0, -1));
        refuses(x, "3: stuck 3", ARGUMENT, () -> x.key(2, false, true, 0, 3));
        liftedByKey();
    }

    private void liftedByKey() {
        Rowscan x = quick(2, 2);
        press(x, 0);
        x.scan(4);
        x.key(0, false, false, 0, 0);
        due("3: no event since it was lifted", 0, () -> x.of(0, 9));
        due("3: still down", 1, () -> x.of(0, 6));
        x.scan(3);
        due("3: up by the next scan", 0, () -> x.of(0, 6));
        due("3: lag from its being lifted so", 1, () -> x.of(0, 9));
    }

    private void promise4() {
        Rowscan x = quick(2, 3);
        due("4: line(0)", 1, () -> x.line(0, true));
        due("4: line(0) again", 1, () -> x.line(0, true));
        due("4: line(4)", 2, () -> x.line(4, true));
        due("4: a row and a column", 0b011000, () -> x.seen(0b111111));
        due("4: mended", 1, () -> x.line(0, false));
        due("4: a column", 0b011011, () -> x.seen(0b111111));
        due("4: mended, not broken", 1, () -> x.line(1, false));
        x.hold(1, true);
        x.hold(2, true);
        x.scan(1);
        due("4: closed", 0b110, () -> x.set(0));
        due("4: not seen through a broken line", 0b010, () -> x.set(1));
        refuses(x, "4: line(5)", INDEX, () -> x.line(5, true));
        refuses(x, "4: line(-1)", INDEX, () -> x.line(-1, true));
        refuses(x, "4: line(31)", INDEX, () -> x.line(31, false));
    }

    private void promise5() {
        Rowscan x = new Rowscan();
        due("5: before", 2, () -> x.patience(6, true));
        due("5: before that", 6, () -> x.patience(1, false));
        due("5: told", 1, () -> x.board(5));
        due("5: guard off", 0, () -> x.board(6));
        x.patience(6, true);
        due("5: guard on", 1, () -> x.board(6));
        x.hold(0, true);
        due("5: waits", 0, () -> x.scan(5));
        due("5: count", 5, () -> x.of(0, 7));
        x.patience(3, true);
        due("5: less patience, at the next scan", 1, () -> x.scan(1));
        due("5: count after an event", 0, () -> x.of(0, 7));
        refuses(x, "5: patience(0)", ARGUMENT, () -> x.patience(0, false));
        refuses(x, "5: patience(7)", ARGUMENT, () -> x.patience(7, false));
        refuses(x, "5: patience(-1)", ARGUMENT, () -> x.patience(-1, false));
    }

    private void promise6() {
        Rowscan x = new Rowscan();
        x.lay(5, 5);
        x.patience(1, false);
        due("6: number of the key", 24, () -> x.code(0, 24, 31));
        due("6: layer 1", 31, () -> x.code(1, 24, 0));
        due("6: layer 2", 31, () -> x.code(2, 24, 3));
        due("6: layer 0 again", 31, () -> x.code(0, 24, 5));
        due("6: layer 1 again", 0, () -> x.code(1, 24, 9));
        due("6: layer 2 again", 3, () -> x.code(2, 24, 3));
        due("6: another key", 23, () -> x.code(0, 23, 29));
        press(x, 24);
        x.code(0, 24, 7);
        due("6: a key that is down keeps its code", 5, () -> x.of(24, 8));
        press(x, 23);
        lift(x, 24);
        press(x, 24);
        due("6: by the layer", "fj", x::text);
        refuses(x, "6: key 25", INDEX, () -> x.code(0, 25, 0));
        refuses(x, "6: key -1 ahead of layer", INDEX, () -> x.code(3, -1, 0));
        refuses(x, "6: layer 3", ARGUMENT, () -> x.code(3, 0, 0));
        refuses(x, "6: layer -1", ARGUMENT, () -> x.code(-1, 0, 0));
        refuses(x, "6: code 32", ARGUMENT, () -> x.code(0, 0, 32));
        refuses(x, "6: code -1", ARGUMENT, () -> x.code(0, 0, -1));
    }

    private void promise7() {
        Rowscan x = quick(2, 2);
        refuses(x, "7: no keys", ARGUMENT, () -> x.chord(0, 0));
        refuses(x, "7: one key", ARGUMENT, () -> x.chord(4, 0));
        refuses(x, "7: four keys", ARGUMENT, () -> x.chord(15, 0));
        refuses(x, "7: a key too far", ARGUMENT, () -> x.chord(17, 0));
        refuses(x, "7: a sign", ARGUMENT, () -> x.chord(3 | Integer.MIN_VALUE, 0));
        refuses(x, "7: letter -1", ARGUMENT, () -> x.chord(3, -1));
        refuses(x, "7: letter 26", ARGUMENT, () -> x.chord(3, 26));
        x.key(3, false, false, 0, 0);
        due("7: with a key that is not fitted", 0, () -> x.chord(12, 0));
        due("7: of three", 1, () -> x.chord(7, 25));
        for (int i = 2; i < 6; i++) {
            int number = i;
            due("7: chord " + number, number, () -> x.chord(3, 1));
        }
        due("7: chords", 6, () -> x.board(11));
        refuses(x, "7: a seventh", STATE, () -> x.chord(3, 1));
        refuses(x, "7: a wrong seventh", ARGUMENT, () -> x.chord(3, 26));
        x.hold(0, true);
        x.hold(1, true);
        due("7: events of keys alone", 2, () -> x.scan(1));
        due("7: chord by chord", "abbbbb", x::text);
        due("7: typed four times", 4, () -> x.board(12));
    }

    private void chordEvents() {
        Rowscan x = quick(2, 2);
        x.code(0, 0, 31);
        x.code(0, 1, 31);
        press(x, 0);
        x.scan(6);
        press(x, 1);
        due("9: a chord that is told late", 0, () -> x.chord(3, 2));
        due("9: no event", 0, () -> x.scan(1));
        due("9: too late by a scan", "", x::text);
        lift(x, 1);
        lift(x, 0);
        press(x, 0);
        x.scan(6);
        press(x, 1);
        due("9: the eighth scan", "c", x::text);
        x.scan(1);
        due("9: once for these events", "c", x::text);
        lift(x, 0);
        press(x, 0);
        due("9: for another event", "cc", x::text);
        due("9: chords typed", 2, () -> x.board(12));
        Rowscan y = quick(2, 2);
        y.key(3, false, false, 0, 0);
        press(y, 0);
        press(y, 1);
        y.chord(3, 2);
        due("9: without an event", 0, () -> y.scan(1));
        due("9: typed without an event", "abc", y::text);
        y.code(0, 2, 28);
        press(y, 2);
        lift(y, 1);
        press(y, 1);
        due("9: small with shift too", "abcBc", y::text);
    }

    private void promise8() {
        Rowscan x = quick(2, 2);
        x.key(1, true, false, 4, 0);
        due("8: held", 1, () -> x.hold(0, true));
        due("8: two", 2, () -> x.hold(1, true));
        due("8: bounces", 4, () -> x.of(1, 5));
        x.scan(1);
        due("8: again", 2, () -> x.hold(1, true));
        due("8: nothing happens again", 3, () -> x.of(1, 5));
        due("8: lifted", 1, () -> x.hold(1, false));
        due("8: bounces anew", 4, () -> x.of(1, 5));
        x.scan(2);
        due("8: lifted again", 1, () -> x.hold(1, false));
        due("8: nothing happens by that", 2, () -> x.of(1, 5));
        due("8: held keys", 1, () -> x.set(4));
        x.key(3, true, false, 0, 1);
        due("8: a stuck one", 2, () -> x.hold(3, true));
        x.key(2, false, false, 0, 0);
        refuses(x, "8: not fitted", STATE, () -> x.hold(2, true));
        refuses(x, "8: not fitted, lifted", STATE, () -> x.hold(2, false));
        refuses(x, "8: hold(4)", INDEX, () -> x.hold(4, true));
        refuses(x, "8: hold(-1)", INDEX, () -> x.hold(-1, false));
        refuses(x, "8: hold(32)", INDEX, () -> x.hold(32, false));
    }

    private void promise9() {
        Rowscan x = new Rowscan();
        refuses(x, "9: scan(0)", ARGUMENT, () -> x.scan(0));
        refuses(x, "9: scan(51)", ARGUMENT, () -> x.scan(51));
        refuses(x, "9: scan(-1)", ARGUMENT, () -> x.scan(-1));
        refuses(x, "9: scan(least)", ARGUMENT, () -> x.scan(Integer.MIN_VALUE));
        x.hold(0, true);
        x.hold(4, true);
        due("9: patience", 0, () -> x.scan(1));
        due("9: events", 2, () -> x.scan(50));
        x.hold(0, false);
        x.scan(1);
        x.hold(0, true);
        due("9: not in a row", 0, () -> x.scan(1));
        due("9: count starts anew", 0, () -> x.of(0, 7));
        x.hold(0, false);
        due("9: up after patience", 1, () -> x.scan(2));
        due("9: events in all", 3, () -> x.board(3));
        for (int i = 0; i < 38; i++) {
            x.scan(50);
        }
        x.scan(44);
        due("9: scans", 1999, () -> x.board(2));
        refuses(x, "9: scan(2) of 1999", STATE, () -> x.scan(2));
        refuses(x, "9: scan(51) of 1999", ARGUMENT, () -> x.scan(51));
        due("9: the last one", 0, () -> x.scan(1));
        refuses(x, "9: scan(1) of 2000", STATE, () -> x.scan(1));
        x.lay(2, 2);
        due("9: anew", 0, () -> x.scan(1));
        stuckKeys();
    }

    private void stuckKeys() {
        Rowscan x = quick(2, 2);
        x.key(0, true, false, 0, 1);
        x.key(1, true, false, 0, 2);
        x.key(3, false, false, 0, 2);
        x.hold(0, true);
        due("9: stuck closed is an event", 1, () -> x.scan(1));
        due("9: stuck", 2, () -> x.set(0));
        due("9: seen", 2, () -> x.set(1));
        x.hold(2, true);
        x.scan(1);
        x.key(3, true, false, 0, 2);
        x.scan(1);
        due("9: fitted again", 14, () -> x.set(0));
        due("9: a ghost that is stuck open and held", 1, () -> x.set(2));
        due("9: it is down", 15, () -> x.set(3));
    }

    private void bounces() {
        // LUCK from 23 on: 30, 73 (odd), 8, 11 (odd), 66, 93 (odd)
        Rowscan x = quick(2, 3);
        x.key(0, true, false, 2, 0);
        x.key(2, true, false, 2, 0);
        x.hold(0, true);
        x.hold(2, true);
        x.scan(1);
        due("9: key by key", 4, () -> x.set(0));
        due("9: luck of two", (61 * 30 + 35) % 128, () -> x.board(4));
        due("9: bounces on", 1, () -> x.of(0, 5));
        x.key(2, true, false, 2, 2);
        x.scan(1);
        due("9: stuck closed draws not", 4, () -> x.set(0));
        due("9: luck of one", 8, () -> x.board(4));
        due("9: no more", 0, () -> x.of(0, 5));
        due("9: stuck bounces no less", 1, () -> x.of(2, 5));
        x.scan(1);
        due("9: held", 5, () -> x.set(0));
        due("9: luck of none", 8, () -> x.board(4));
        x.key(2, true, false, 2, 1);
        x.scan(1);
        due("9: stuck open", 1, () -> x.set(0));
        due("9: stuck open bounces no less", 1, () -> x.of(2, 5));
        x.key(2, true, false, 0, 0);
        x.hold(0, false);
        x.scan(1);
        due("9: bounces as it is lifted, and after all", 1, () -> x.set(0));
        due("9: luck of both", 66, () -> x.board(4));
    }

    private void guard() {
        Rowscan x = quick(2, 2);
        x.patience(2, true);
        x.hold(0, true);
        x.hold(1, true);
        x.hold(2, true);
        due("9: nobody knows which is held", 0, () -> x.scan(5));
        due("9: count is patience", 2, () -> x.of(3, 7));
        x.patience(4, true);
        x.scan(1);
        due("9: goes on from there", 3, () -> x.of(0, 7));
        x.patience(1, true);
        x.scan(1);
        due("9: count is patience again", 1, () -> x.of(0, 7));
        x.hold(1, false);
        due("9: no ghost more", 2, () -> x.scan(1));
        due("9: those that are held", 5, () -> x.set(3));
        x.hold(1, true);
        due("9: a ghost by those", 0, () -> x.scan(1));
        x.hold(0, false);
        due("9: one goes up, and so another one down", 2, () -> x.scan(1));
        due("9: those that are held then", 6, () -> x.set(3));
        Rowscan y = quick(2, 2);
        y.patience(1, true);
        y.key(0, true, true, 0, 0);
        y.hold(0, true);
        y.hold(1, true);
        y.hold(2, true);
        y.hold(3, true);
        due("9: by a diode three of them could be ghosts", 1, () -> y.scan(1));
        due("9: the one across from the diode could not", 8, () -> y.set(3));
    }

    private void promise10() {
        Rowscan x = new Rowscan();
        due("10: first", 1, x::call);
        due("10: second", 2, x::call);
        x.lay(2, 2);
        due("10: ever", 3, x::call);
        due("10: told", 3, () -> x.board(14));
    }

    private void promise11() {
        Rowscan x = quick(2, 2);
        x.patience(2, false);
        x.key(2, true, true, 3, 2);
        x.hold(2, true);
        x.scan(1);
        int[] first = {1, 1, 3, 2, 1, 3, 0, 1, -1, 0, 0};
        for (int i = 0; i < first.length; i++) {
            int what = i;
            due("11: of(2, " + what + ")", first[what], () -> x.of(2, what));
        }
        x.scan(1);
        int[] then = {1, 1, 3, 2, 1, 3, 1, 0, 2, 2, 1};
        for (int i = 0; i < then.length; i++) {
            int what = i;
            due("11: then of(2, " + what + ")", then[what], () -> x.of(2, what));
        }
        refuses(x, "11: of(4, 0)", INDEX, () -> x.of(4, 0));
        refuses(x, "11: of(-1, 11)", INDEX, () -> x.of(-1, 11));
        refuses(x, "11: of(0, 11)", ARGUMENT, () -> x.of(0, 11));
        refuses(x, "11: of(0, -1)", ARGUMENT, () -> x.of(0, -1));
        lags();
    }

    private void lags() {
        Rowscan x = quick(2, 2);
        x.patience(3, false);
        x.scan(7);
        x.hold(0, true);
        x.scan(2);
        due("11: no event yet", 0, () -> x.of(0, 9));
        x.scan(9);
        due("11: lag", 3, () -> x.of(0, 9));
        x.line(0, true);
        x.scan(9);
        due("11: to its last event", 14, () -> x.of(0, 9));
        x.hold(0, false);
        due("11: none since", 0, () -> x.of(0, 9));
        x.hold(1, true);
        x.hold(2, true);
        x.line(0, false);
        x.hold(0, true);
        x.scan(3);
        due("11: never held", 0, () -> x.of(3, 9));
        due("11: event of a ghost", 1, () -> x.of(3, 10));
    }

    private void promise12() {
        Rowscan x = quick(2, 2);
        x.hold(0, true);
        x.hold(1, true);
        due("12: ahead of the first scan", 0, () -> x.set(0) + x.set(1) + x.set(2));
        x.key(2, true, false, 0, 2);
        x.scan(1);
        int[] want = {7, 15, 8, 15, 3, 15};
        for (int i = 0; i < want.length; i++) {
            int what = i;
            due("12: set(" + what + ")", want[what], () -> x.set(what));
        }
        x.hold(0, false);
        x.key(2, false, false, 0, 0);
        x.line(0, true);
        int[] then = {7, 15, 8, 15, 2, 11};
        for (int i = 0; i < then.length; i++) {
            int what = i;
            due("12: of the last scan, set(" + what + ")", then[what], () -> x.set(what));
        }
        refuses(x, "12: set(-1)", ARGUMENT, () -> x.set(-1));
        refuses(x, "12: set(6)", ARGUMENT, () -> x.set(6));
    }

    private void promise13() {
        Rowscan x = quick(2, 4);
        x.patience(1, true);
        x.line(5, true);
        x.line(1, true);
        x.chord(3, 0);
        x.code(0, 1, 30);
        x.call();
        press(x, 1);
        press(x, 0);
        boardIs("13:", x, 2, 4, 2, 2, 23, 1, 1, 2, 1, -1, 2, 1, 1, 0, 1);
        x.line(1, false);
        due("13: not clear", 0, () -> x.board(8));
        due("13: least", 3, () -> x.board(9));
        x.key(0, true, false, 0, 1);
        due("13: stuck does not matter", 3, () -> x.board(9));
        refuses(x, "13: board(-1)", ARGUMENT, () -> x.board(-1));
        refuses(x, "13: board(15)", ARGUMENT, () -> x.board(15));
        x.lay(3, 3);
        // a ring of six keys
        x.key(2, false, false, 0, 0);
        x.key(3, false, false, 0, 0);
        x.key(7, false, false, 0, 0);
        due("13: least of a ring", 5, () -> x.board(9));
        x.key(0, true, true, 0, 0);
        due("13: one way through the diode", 5, () -> x.board(9));
        for (int key : new int[] {1, 4, 5, 6}) {
            x.key(key, true, true, 0, 0);
        }
        due("13: clear by diodes", 1, () -> x.board(8));
        due("13: no least", -1, () -> x.board(9));
    }

    private void layers() {
        Rowscan x = quick(3, 3);
        for (int key = 0; key < 9; key++) {
            x.key(key, true, true, 0, 0);
        }
        x.code(0, 0, 29);
        x.code(1, 1, 30);
        x.code(0, 8, 28);
        x.code(1, 5, 1);
        x.code(2, 5, 2);
        x.code(2, 2, 29);
        press(x, 5);
        lift(x, 5);
        press(x, 0);
        due("13: layer 1", 1, () -> x.board(7));
        press(x, 5);
        lift(x, 5);
        press(x, 1);
        due("13: layer 2", 2, () -> x.board(7));
        press(x, 2);
        lift(x, 0);
        due("13: layer 2 by a key of layer 1", 2, () -> x.board(7));
        press(x, 5);
        due("13: code of then", 2, () -> x.of(5, 8));
        lift(x, 1);
        due("13: layer 1 by a key of layer 2", 1, () -> x.board(7));
        due("13: kept till it is up", 2, () -> x.of(5, 8));
        lift(x, 2);
        due("13: layer 0", 0, () -> x.board(7));
        lift(x, 5);
        due("13: none as it is up", -1, () -> x.of(5, 8));
        press(x, 8);
        press(x, 5);
        due("14: by layers and shift", "fbcF", x::text);
        x.hold(0, true);
        x.hold(4, true);
        x.hold(6, true);
        x.code(1, 4, 12);
        x.code(0, 4, 3);
        x.scan(1);
        due("13: the layer of then, key by key", "fbcFM", x::text);
    }

    private void promise14() {
        Rowscan x = quick(2, 2);
        x.code(0, 1, 27);
        x.code(0, 2, 26);
        x.code(0, 3, 31);
        press(x, 1);
        lift(x, 1);
        due("14: nothing to take away", "", x::text);
        press(x, 0);
        lift(x, 0);
        press(x, 1);
        lift(x, 1);
        due("14: the only sign away", "", x::text);
        press(x, 0);
        lift(x, 0);
        press(x, 2);
        lift(x, 2);
        press(x, 3);
        lift(x, 3);
        press(x, 0);
        lift(x, 0);
        due("14: letters and a blank", "a a", x::text);
        press(x, 1);
        lift(x, 1);
        due("14: the last sign away", "a ", x::text);
        x.code(0, 0, 25);
        for (int i = 0; i < 58; i++) {
            press(x, 0);
            lift(x, 0);
        }
        due("14: sixty signs", "a " + "z".repeat(58), x::text);
        due("14: none is lost yet", 0, () -> x.board(13));
        press(x, 0);
        x.code(0, 0, 31);
        lift(x, 0);
        press(x, 2);
        due("14: not more", "a " + "z".repeat(58), x::text);
        due("14: lost", 2, () -> x.board(13));
        x.chord(5, 7);
        press(x, 0);
        due("14: a chord that is lost", 3, () -> x.board(13));
        due("14: was typed", 1, () -> x.board(12));
        lift(x, 0);
        lift(x, 2);
        press(x, 1);
        due("14: room again", "a " + "z".repeat(57), x::text);
        x.chord(6, 7);
        press(x, 2);
        due("14: the sixtieth, and a chord", "a " + "z".repeat(57) + " ", x::text);
        due("14: which is lost", 4, () -> x.board(13));
    }

    private void promise15() {
        Rowscan x = quick(2, 4);
        press(x, 0);
        press(x, 1);
        x.key(1, false, false, 0, 0);
        x.hold(2, true);
        due("15: row 0", "# +.", () -> x.picture(0));
        due("15: row 1", "....", () -> x.picture(1));
        x.hold(0, false);
        x.hold(7, true);
        due("15: still down", "# +.", () -> x.picture(0));
        due("15: held", "...+", () -> x.picture(1));
        refuses(x, "15: picture(2)", INDEX, () -> x.picture(2));
        refuses(x, "15: picture(-1)", INDEX, () -> x.picture(-1));
        x.lay(5, 2);
        due("15: row 4", "..", () -> x.picture(4));
    }

    private void promise16() {
        Rowscan x = quick(3, 3);
        due("16: without an event", 0.0, x::lag);
        x.hold(0, true);
        due("16: held alone", 0.0, x::lag);
        x.scan(1);
        due("16: one", 1.0, x::lag);
        x.hold(4, true);
        x.patience(4, false);
        x.scan(4);
        due("16: two", 2.5, x::lag);
        x.key(8, true, false, 0, 2);
        x.scan(4);
        due("16: three, one of which is 0", 5.0 / 3, x::lag);
        x.hold(0, false);
        due("16: lifted", 4.0 / 3, x::lag);
    }

    private void promise17() {
        Rowscan x = new Rowscan();
        due("17: none", 0, () -> x.seen(0));
        due("17: one", 16, () -> x.seen(16));
        due("17: two of a row", 3, () -> x.seen(3));
        due("17: three corners", 0b11011, () -> x.seen(0b01011));
        due("17: five of a ring", 0b111111111, () -> x.seen(0b101110010));
        due("17: all", 511, () -> x.seen(511));
        x.key(0, true, true, 0, 0);
        due("17: back through a diode", 0b01011, () -> x.seen(0b01011));
        due("17: forth through a diode", 0b11011, () -> x.seen(0b10011));
        x.key(8, false, false, 0, 0);
        due("17: a key that is not fitted", 0, () -> x.seen(256));
        due("17: it conducts not", 0b010100000, () -> x.seen(0b110100000));
        x.key(4, true, false, 0, 2);
        due("17: stuck does not matter", 2, () -> x.seen(2));
        x.line(4, true);
        due("17: a broken line", 0, () -> x.seen(2));
        due("17: changes nothing", 0, () -> x.set(1));
        refuses(x, "17: seen(-1)", ARGUMENT, () -> x.seen(-1));
        refuses(x, "17: seen(512)", ARGUMENT, () -> x.seen(512));
        refuses(x, "17: seen(least)", ARGUMENT, () -> x.seen(Integer.MIN_VALUE));
        refuses(x, "17: seen(most)", ARGUMENT, () -> x.seen(Integer.MAX_VALUE));
    }

    private void promise18() {
        Rowscan x = new Rowscan();
        due("18: none", true, () -> x.exact(0));
        due("18: two", true, () -> x.exact(3));
        due("18: three corners", false, () -> x.exact(0b01011));
        due("18: four corners", true, () -> x.exact(0b11011));
        due("18: all", true, () -> x.exact(511));
        x.key(4, false, false, 0, 0);
        due("18: no ghost that is not fitted", true, () -> x.exact(0b01011));
        due("18: the fitted ones of them", true, () -> x.exact(0b11010));
        x.key(4, true, false, 0, 0);
        x.line(0, true);
        due("18: through a broken line", true, () -> x.exact(0b01011));
        due("18: not seen itself", true, () -> x.exact(1));
        refuses(x, "18: exact(-1)", ARGUMENT, () -> x.exact(-1));
        refuses(x, "18: exact(512)", ARGUMENT, () -> x.exact(512));
    }

    private void promise19() {
        Rowscan x = new Rowscan();
        x.lay(2, 2);
        due("19: one of four", 0, () -> x.unclear(1));
        due("19: two of four", 0, () -> x.unclear(2));
        due("19: three of four", 4, () -> x.unclear(3));
        due("19: four of four", 0, () -> x.unclear(4));
        x.key(0, true, true, 0, 0);
        due("19: with a diode", 3, () -> x.unclear(3));
        x.key(3, false, false, 0, 0);
        due("19: three keys fitted", 0, () -> x.unclear(3));
        due("19: less than four keys fitted", 0, () -> x.unclear(4));
        refuses(x, "19: unclear(0)", ARGUMENT, () -> x.unclear(0));
        refuses(x, "19: unclear(5)", ARGUMENT, () -> x.unclear(5));
        refuses(x, "19: unclear(-1)", ARGUMENT, () -> x.unclear(-1));
        refuses(x, "19: unclear(33)", ARGUMENT, () -> x.unclear(33));
        x.lay(5, 5);
        // 10 * 10 rectangles with four corners to leave out
        due("19: three of 25", 400, () -> x.unclear(3));
        // sets of four can hold two such threes, so they are not counted by hand but by the model
        Model model = new Model();
        model.lay(5, 5);
        due("19: four of 25", model.unclear(4), () -> x.unclear(4));
    }

    private void promise20() {
        Rowscan x = new Rowscan();
        x.lay(2, 2);
        due("20: a diode of four", 3, () -> x.wouldHelp(0));
        x.key(1, true, true, 0, 0);
        x.key(2, true, true, 0, 0);
        due("20: a third", 3, () -> x.wouldHelp(0));
        x.key(3, true, true, 0, 0);
        due("20: least now", 3, () -> x.board(9));
        due("20: the last one", -1, () -> x.wouldHelp(0));
        due("20: one that has a diode", 3, () -> x.wouldHelp(1));
        due("20: nothing is changed", 0, () -> x.of(0, 1));
        refuses(x, "20: wouldHelp(4)", INDEX, () -> x.wouldHelp(4));
        refuses(x, "20: wouldHelp(-1)", INDEX, () -> x.wouldHelp(-1));
        refuses(x, "20: wouldHelp(32)", INDEX, () -> x.wouldHelp(32));
        x.key(3, false, true, 0, 0);
        due("20: three keys", -1, () -> x.wouldHelp(0));
        due("20: one that is not fitted", -1, () -> x.wouldHelp(3));
    }

    private void promise21() {
        Rowscan x = new Rowscan();
        due("21: the smallest of as good ones", 0, x::bestDiode);
        x.key(0, false, false, 0, 0);
        // the corner across from the gap is in three rectangles, as many as any other one
        due("21: what is best with a gap", 4, () -> {
            x.key(8, true, true, 0, 0);
            return x.bestDiode();
        });
        x.lay(2, 3);
        x.key(1, false, false, 0, 0);
        due("21: those of the one rectangle", 0, x::bestDiode);
        x.key(0, true, true, 0, 0);
        due("21: the next one", 2, x::bestDiode);
        for (int key : new int[] {2, 3, 5}) {
            x.key(key, true, true, 0, 0);
        }
        due("21: one that does not help is there", 4, x::bestDiode);
        x.key(4, true, true, 0, 0);
        due("21: none", -1, x::bestDiode);
        due("21: nothing is changed", 0, () -> x.of(1, 1));
        x.lay(2, 2);
        x.line(0, true);
        due("21: none helps", 0, x::bestDiode);
    }

    private void promise22() {
        Rowscan x = quick(2, 2);
        x.hold(0, true);
        x.hold(1, true);
        due("22: ahead of the first scan", 0, () -> x.wouldGhost(2));
        x.scan(1);
        due("22: a third corner", 8, () -> x.wouldGhost(2));
        due("22: another one", 4, () -> x.wouldGhost(3));
        due("22: one that is closed", 0, () -> x.wouldGhost(0));
        x.hold(0, false);
        x.hold(1, false);
        due("22: by the last scan", 8, () -> x.wouldGhost(2));
        x.key(2, true, false, 0, 1);
        due("22: stuck or not", 8, () -> x.wouldGhost(2));
        x.key(0, true, true, 0, 0);
        due("22: by the board of now", 0, () -> x.wouldGhost(2));
        x.key(2, false, false, 0, 0);
        due("22: not fitted", 0, () -> x.wouldGhost(2));
        refuses(x, "22: wouldGhost(4)", INDEX, () -> x.wouldGhost(4));
        refuses(x, "22: wouldGhost(-1)", INDEX, () -> x.wouldGhost(-1));
        Rowscan y = quick(2, 3);
        for (int key = 0; key < 4; key++) {
            y.hold(key, key != 2);
        }
        y.scan(1);
        due("22: ghosts that are there already", 16, () -> y.wouldGhost(0));
        y.key(2, false, false, 0, 0);
        due("22: not fitted, with a ghost there", 0, () -> y.wouldGhost(2));
        due("22: two at once", 16 + 8, () -> {
            y.key(2, true, false, 0, 0);
            y.hold(3, false);
            y.hold(2, true);
            y.scan(1);
            return y.wouldGhost(5);
        });
    }

    private void promise23() {
        Rowscan x = new Rowscan();
        due("23: new", true, x::isSound);
        x.key(4, true, true, 2, 2);
        x.hold(3, true);
        x.key(3, false, false, 0, 0);
        x.line(1, true);
        x.scan(9);
        due("23: used", true, x::isSound);
        for (int key = 0; key < 9; key++) {
            x.key(key, true, true, 0, 0);
        }
        due("23: clear", true, x::isSound);
        x.lay(2, 2);
        for (int key = 0; key < 4; key++) {
            x.key(key, true, key % 2 == 0, 0, 0);
            x.hold(key, true);
        }
        due("23: held", true, x::isSound);
        x.code(0, 0, 26);
        x.patience(1, false);
        press(x, 0);
        holdAll(x, false, 0, 1, 2, 3);
        x.scan(1);
        for (int i = 0; i < 61; i++) {
            tap(x, 0);
            due("23: with a long text", true, x::isSound);
        }
        due("23: text is full", 60, () -> x.text().length());
        x.lay(3, 3);
        for (int key = 0; key < 9; key++) {
            x.key(key, false, false, 0, 0);
        }
        due("23: without a key", true, x::isSound);
    }

    private void promise24() {
        Rowscan x = new Rowscan();
        due("24: new", Traces.sum(new Rowscan()), x::digest);
        due("24: as long as nothing is changed", x.digest(), x::digest);
        x.lay(4, 5);
        x.key(7, true, true, 3, 0);
        x.code(0, 2, 26);
        x.chord(5, 20);
        for (int key = 0; key < 8; key++) {
            x.hold(key, true);
            x.scan(1 + key % 3);
        }
        long want = Traces.sum(x);
        due("24: used", want, x::digest);
        x.call();
        due("24: a refused call more", true, () -> x.digest() != want);
    }
}
