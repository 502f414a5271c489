/** Promises 1 to 7, sentence by sentence: a new object, reset and the settings. */
final class SettingsSentences {
    private static final int BAD = KeyScanner.BAD_VALUE;
    private static final int NONE = KeyScanner.NONE;
    private static final int UNKNOWN = KeyScanner.UNKNOWN;
    private static final int LEAST = Integer.MIN_VALUE;
    private static final int GREATEST = Integer.MAX_VALUE;

    private final Book book;

    private SettingsSentences(Book book) {
        this.book = book;
    }

    static void run(Book book) {
        SettingsSentences tests = new SettingsSentences(book);
        tests.promise1();
        tests.promise2();
        tests.promise3();
        tests.promise4();
        tests.promise5();
        tests.promise6();
        tests.promise7();
    }

    private void due(String call, long got, long want) {
        book.due(call, got, want);
    }

    private void due(String call, String got, String want) {
        book.due(call, got, want);
    }

    // ---- Promise 1: a new object

    private void promise1() {
        book.promise(1);
        createsAsDescribed();
        atFirstFourByFour();
        atFirstAllKeysAreUp();
        atFirstNoDiodes();
        atFirstTimeZero();
        atFirstPhaseZero();
        atFirstNoLateRelease();
        atFirstNoBlocking();
        atFirstSlopeEight();
        atFirstFourVoices();
        atFirstBothPedalsUp();
    }

    private void createsAsDescribed() {
        book.says("Creates a scanner as described.");
        KeyScanner x = new KeyScanner();
        due("counts", Runs.counts(x), "0 16 0 0 0 4 0 0 0 0 0 0");
        due("log(0, 0)", x.log(0, 0), NONE);
        due("nextTaken()", x.nextTaken(), NONE);
        due("worstKey()", x.worstKey(), NONE);
        due("restAfter(1)", x.restAfter(1), 0);
        for (int row = 0; row < 4; row++) {
            due("connected(" + row + ")", x.connected(row), 1 << row);
        }
        for (int key = 0; key < 16; key++) {
            due("key " + key, Runs.key(x, key), "0 0 0 -3 0 0 0 0");
        }
        KeyScanner other = Twins.busy(2);
        due("another object's time", other.count(0), 37);
        book.alike("a busy object beside a new one", new KeyScanner(), x);
        // The description names no rule that is there at first; 0 is what all else begins with.
        KeyScanner y = Runs.row();
        Runs.strike(y, 0, 0);
        Runs.strike(y, 1, 3);
        Runs.strike(y, 2, 0);
        y.sustain(true);
        Runs.put(y, 0, 2);
        Runs.strike(y, 3, 0);
        due("the rule 0", y.nextTaken(), 0);
    }

    private void atFirstFourByFour() {
        book.described("There are 1 to 8 rows and 1 to 8 columns (at first 4 and 4);");
        KeyScanner x = new KeyScanner();
        due("count(1)", x.count(1), 16);
        due("key(15, 0)", x.key(15, 0), 0);
        due("key(16, 0)", x.key(16, 0), UNKNOWN);
        due("connected(3)", x.connected(3), 8);
        due("connected(4)", x.connected(4), BAD);
        Runs.press(x, 1, 3, 4);
        due("key 3 in row 0 and column 3", x.connected(0), 1 + 256 * 8);
        due("key 4 in row 1 and column 0", x.connected(1), 2 + 256 * 1);
    }

    private void atFirstAllKeysAreUp() {
        book.described("At first all keys are up.");
        KeyScanner x = new KeyScanner();
        due("positions", Runs.keys(x, 0), Runs.times(16, 0));
        due("first contacts", Runs.keys(x, 4), Runs.times(16, 0));
        due("second contacts", Runs.keys(x, 5), Runs.times(16, 0));
        due("count(2)", x.count(2), 0);
        due("liftAll()", x.liftAll(), 0);
    }

    private void atFirstNoDiodes() {
        book.described("There can be diodes (at first not).");
        KeyScanner x = new KeyScanner();
        Runs.press(x, 1, 0, 1, 4);
        due("key(5, 6)", x.key(5, 6), 1);
        due("count(3)", x.count(3), 1);
    }

    private void atFirstTimeZero() {
        book.described("The time is counted in ticks, 0 at first.");
        KeyScanner x = new KeyScanner();
        due("count(0)", x.count(0), 0);
        x.setKey(0, 2);
        due("tick(1)", x.tick(1), 1);
        due("time of the first scan", x.voice(0, 3), 0);
    }

    private void atFirstPhaseZero() {
        book.described("A key has a phase, 0 at first, and a beginning;");
        KeyScanner x = new KeyScanner();
        due("phases", Runs.keys(x, 1), Runs.times(16, 0));
        due("beginnings", Runs.keys(x, 2), Runs.times(16, 0));
    }

    private void atFirstNoLateRelease() {
        book.described("(The late release is set or not, at first not.)");
        due("setLateRelease(false)", new KeyScanner().setLateRelease(false), 0);
        KeyScanner x = new KeyScanner();
        x.setKey(0, 2);
        x.tick(4);
        x.setKey(0, 1);
        x.tick(4);
        due("released halfway", Runs.states(x), "0 0 0 0");
    }

    private void atFirstNoBlocking() {
        book.described("If the blocking rule is on (at first it is not), and the key is doubtful,"
            + " it is refused: no voice begins (its phase becomes 2 all the same).");
        due("setBlocking(false)", new KeyScanner().setBlocking(false), 0);
        KeyScanner x = new KeyScanner();
        Runs.press(x, 2, 0, 1, 4);
        x.tick(4);
        due("strikes of doubtful keys", x.count(9), 4);
        due("refused ones", x.count(10), 0);
    }

    private void atFirstSlopeEight() {
        book.described("with the slope (1 to 64, at first 8)");
        due("velocity(1)", new KeyScanner().velocity(1), 120);
        due("setSlope(1)", new KeyScanner().setSlope(1), 8);
        KeyScanner x = Runs.row();
        Runs.strike(x, 0, 2);
        due("voice(0, 2)", x.voice(0, 2), 112);
    }

    private void atFirstFourVoices() {
        book.described("There are 1 to 8 voices (at first 4), numbered from 0.");
        KeyScanner x = new KeyScanner();
        due("count(5)", x.count(5), 4);
        due("voice(-1, 0)", x.voice(-1, 0), UNKNOWN);
        for (int voice = 0; voice < 4; voice++) {
            due("voice " + voice, Runs.voice(x, voice), "0 -3 -3 -3 0");
        }
        due("voice(4, 0)", x.voice(4, 0), UNKNOWN);
        due("setVoices(1, 0)", x.setVoices(1, 0), 4);
    }

    private void atFirstBothPedalsUp() {
        book.described("At first both pedals are up.");
        KeyScanner x = new KeyScanner();
        due("sustain(false)", x.sustain(false), 0);
        due("sostenuto(false)", x.sostenuto(false), 0);
        KeyScanner y = new KeyScanner();
        y.setKey(0, 2);
        y.tick(4);
        due("captured at first", y.voice(0, 4), 0);
        y.setKey(0, 0);
        y.tick(4);
        due("no pedal keeps it", y.voice(0, 0), 0);
        y.setKey(0, 2);
        y.tick(4);
        due("sostenuto goes down", y.sostenuto(true), 1);
        KeyScanner z = new KeyScanner();
        z.setKey(0, 2);
        z.tick(4);
        z.sustain(true);
        z.setKey(0, 0);
        z.tick(4);
        due("sustain goes down", z.voice(0, 0), 2);
    }

    // ---- Promise 2: reset

    private void promise2() {
        book.promise(2);
        becomesAsAtFirst();
        becomesAsAtFirstInEachKey();
        settingsStay();
        rowsOneToEight();
        columnsOneToEight();
        numberOfKeys();
        whereKeysLie();
    }

    private void becomesAsAtFirst() {
        book.says("Starts anew with another matrix: everything becomes as at first,");
        int[][] shapes = {{2, 4}, {4, 2}, {1, 1}, {2, 2}, {1, 8}, {8, 1}};
        for (int[] shape : shapes) {
            for (int kind = 0; kind < 3; kind++) {
                KeyScanner x = Twins.busy(kind);
                x.reset(shape[0], shape[1]);
                KeyScanner y = new KeyScanner();
                y.setDiodes(kind == 1);
                y.setBlocking(true);
                y.setLateRelease(true);
                y.setSlope(5);
                y.setVoices(3, kind);
                y.reset(shape[0], shape[1]);
                String call = "reset(" + shape[0] + ", " + shape[1] + ") of busy " + kind;
                due(call + ", counts", Runs.counts(x),
                    "0 " + shape[0] * shape[1] + " 0 0 0 3 0 0 0 0 0 0");
                book.alike(call, x, y);
            }
        }
        timeAndPedalsBegin();
    }

    private void timeAndPedalsBegin() {
        KeyScanner x = Runs.matrix(2, 2);
        x.tick(1);
        x.reset(2, 2);
        x.setKey(0, 2);
        x.tick(1);
        due("the scan begins with row 0 again", x.key(0, 1), 2);
        KeyScanner y = Runs.row();
        Runs.put(y, 2, 0);
        y.sustain(true);
        y.sostenuto(true);
        y.reset(1, 8);
        Runs.put(y, 2, 0);
        Runs.put(y, 0, 0);
        due("sustain went up", y.voice(0, 0), 0);
        Runs.put(y, 2, 0);
        due("sostenuto went up", y.sostenuto(true), 1);
        y.reset(1, 8);
        due("nothing goes up by sostenuto(false)", y.sostenuto(false), 0);
        due("nor by sustain(false)", y.sustain(false), 0);
    }

    private void becomesAsAtFirstInEachKey() {
        book.described("At first all keys are up.");
        KeyScanner x = Runs.matrix(8, 8);
        for (int key = 0; key < 64; key++) {
            x.setKey(key, 2);
        }
        x.tick(8);
        x.reset(1, 1);
        due("the one key", Runs.key(x, 0), "0 0 0 -3 0 0 0 0");
        x.reset(8, 8);
        due("positions", Runs.keys(x, 0), Runs.times(64, 0));
        due("phases", Runs.keys(x, 1), Runs.times(64, 0));
        due("first contacts", Runs.keys(x, 4), Runs.times(64, 0));
        due("connected rows", x.connected(0), 1);
        due("the last key", Runs.key(x, 63), "0 0 0 -3 0 0 0 0");
    }

    private void settingsStay() {
        book.says("but the settings (diodes, blocking rule, late release, slope, number of voices"
            + " and rule) stay.");
        KeyScanner x = new KeyScanner();
        x.setDiodes(true);
        x.reset(2, 2);
        Runs.press(x, 1, 0, 1, 2);
        due("diodes", x.count(3), 0);
        x = new KeyScanner();
        x.setBlocking(true);
        x.reset(2, 2);
        due("blocking rule", x.setBlocking(true), 0);
        x = new KeyScanner();
        x.setLateRelease(true);
        x.reset(2, 2);
        due("late release", x.setLateRelease(true), 0);
        x = new KeyScanner();
        x.setSlope(3);
        x.reset(2, 2);
        due("slope", x.setSlope(3), 3);
        x = new KeyScanner();
        x.setVoices(8, 0);
        x.reset(2, 2);
        due("number of voices", x.count(5), 8);
        due("the last voice", x.voice(7, 0), 0);
        for (int rule = 0; rule < 3; rule++) {
            x = new KeyScanner();
            x.setVoices(3, rule);
            x.reset(1, 8);
            fillThree(x);
            due("rule " + rule, x.nextTaken(), rule);
        }
    }

    /** Strikes three voices so that each rule takes the one of its own number. */
    private static void fillThree(KeyScanner x) {
        Runs.strike(x, 0, 0);
        Runs.strike(x, 1, 3);
        Runs.strike(x, 2, 0);
        x.sustain(true);
        Runs.put(x, 0, 2);
    }

    private void rowsOneToEight() {
        book.says("`rows`: 1 to 8");
        due("reset(1, 8)", new KeyScanner().reset(1, 8), 8);
        due("reset(8, 1)", new KeyScanner().reset(8, 1), 8);
        for (int rows : new int[] {0, 9, -1, 16, LEAST, GREATEST}) {
            Twins.refuses(book, "reset(" + rows + ", 4)", BAD, x -> x.reset(rows, 4));
        }
    }

    private void columnsOneToEight() {
        book.says("`columns`: 1 to 8");
        due("reset(4, 1)", new KeyScanner().reset(4, 1), 4);
        due("reset(4, 8)", new KeyScanner().reset(4, 8), 32);
        for (int columns : new int[] {0, 9, -1, 16, LEAST, GREATEST}) {
            Twins.refuses(book, "reset(4, " + columns + ")", BAD, x -> x.reset(4, columns));
        }
    }

    private void numberOfKeys() {
        book.says("Returns the number of keys; BAD_VALUE.");
        for (int rows = 1; rows <= 8; rows++) {
            for (int columns = 1; columns <= 8; columns++) {
                KeyScanner x = new KeyScanner();
                String call = "reset(" + rows + ", " + columns + ")";
                int keys = rows * columns;
                due(call, x.reset(rows, columns), keys);
                due(call + ", count", x.count(1), keys);
                due(call + ", last key", x.key(keys - 1, 0), 0);
                due(call + ", key behind it", x.key(keys, 0), UNKNOWN);
                due(call + ", last row", x.connected(rows - 1), 1 << (rows - 1));
                due(call + ", row behind it", x.connected(rows), BAD);
            }
        }
        Twins.refuses(book, "reset(0, 0)", BAD, x -> x.reset(0, 0));
        Twins.refuses(book, "reset(-4, -4)", BAD, x -> x.reset(-4, -4));
        Twins.refuses(book, "reset(9, 9)", BAD, x -> x.reset(9, 9));
    }

    private void whereKeysLie() {
        book.described("the key k (from 0) lies in the row k / columns and the column k % columns.");
        for (int rows = 1; rows <= 8; rows++) {
            for (int columns = 1; columns <= 8; columns++) {
                KeyScanner x = Runs.matrix(rows, columns);
                for (int key = 0; key < rows * columns; key++) {
                    x.setKey(key, 1);
                    due("key " + key + " of " + rows + " x " + columns,
                        x.connected(key / columns),
                        (1 << (key / columns)) + 256 * (1 << (key % columns)));
                    x.setKey(key, 0);
                }
            }
        }
    }

    // ---- Promise 3: setDiodes

    private void promise3() {
        book.promise(3);
        setsDiodes();
        trueForDiodes();
        ghostsThen();
    }

    private void setsDiodes() {
        book.says("Sets whether there are diodes.");
        KeyScanner x = Runs.matrix(2, 2);
        Runs.press(x, 2, 0, 1, 2);
        x.tick(2);
        due("a ghost sounds", x.key(3, 3), 3);
        x.setDiodes(true);
        due("its phase stays until its scan", x.key(3, 1), 2);
        x.tick(2);
        due("then it is released", x.key(3, 3), NONE);
        due("and at rest", x.key(3, 1), 0);
        due("the others sound on", Runs.states(x), "1 1 1 0");
        x.setDiodes(false);
        x.tick(2);
        due("a ghost again", x.key(3, 3), 3);
    }

    private void trueForDiodes() {
        book.says("`on`: true for diodes");
        KeyScanner x = Runs.matrix(2, 2);
        Runs.press(x, 1, 0, 1, 2);
        x.setDiodes(true);
        due("true", Runs.keys(x, 4), "1 1 1 0");
        x.setDiodes(true);
        due("true already", Runs.keys(x, 4), "1 1 1 0");
        x.setDiodes(false);
        due("false", Runs.keys(x, 4), "1 1 1 1");
        x.setDiodes(false);
        due("false already", Runs.keys(x, 4), "1 1 1 1");
    }

    private void ghostsThen() {
        book.says("Returns the number of keys that are ghosts then.");
        KeyScanner x = Runs.matrix(8, 8);
        due("no key, false already", x.setDiodes(false), 0);
        due("no key, true", x.setDiodes(true), 0);
        Runs.press(x, 1, 0, 1, 2, 3, 4, 5, 6, 7, 8, 16, 24, 32, 40, 48, 56);
        due("row 0 and column 0, true already", x.setDiodes(true), 0);
        due("row 0 and column 0, false", x.setDiodes(false), 49);
        due("row 0 and column 0, false already", x.setDiodes(false), 49);
        for (int key = 0; key < 64; key++) {
            x.setKey(key, 1);
        }
        due("all halfway", x.setDiodes(false), 0);
        Runs.press(x, 2, 0, 1, 2, 3, 4, 5, 6, 7, 8, 16, 24, 32, 40, 48, 56);
        due("ghosts of the second contacts", x.setDiodes(false), 49);
        due("all pressed, true", x.setDiodes(true), 0);
    }

    // ---- Promise 4: setBlocking

    private void promise4() {
        book.promise(4);
        switchesTheRule();
        blockingTrueForOn();
        blockingIsAChange();
        refusedBeginsNoVoice();
    }

    private void switchesTheRule() {
        book.says("Switches the blocking rule.");
        KeyScanner x = Runs.matrix(2, 2);
        Runs.press(x, 1, 0, 1, 2, 3);
        x.tick(2);
        x.setBlocking(true);
        x.setKey(0, 2);
        x.tick(2);
        due("switched on ahead of the strike", x.count(10), 1);
        x.setBlocking(false);
        x.tick(2);
        due("switched off behind it, no strike", x.count(9), 0);
        x.setKey(1, 2);
        x.tick(2);
        due("switched off ahead of the strike", x.count(9), 1);
        x.setBlocking(true);
        due("switched on behind it, it sounds on", x.key(1, 3), 0);
    }

    private void blockingTrueForOn() {
        book.says("`on`: true for on");
        due("true", strikesOfFour(true), 0);
        due("false", strikesOfFour(false), 4);
    }

    private static int strikesOfFour(boolean blocking) {
        KeyScanner x = Runs.matrix(2, 2);
        x.setBlocking(blocking);
        Runs.press(x, 2, 0, 1, 2, 3);
        x.tick(2);
        return x.count(9);
    }

    private void blockingIsAChange() {
        book.says("Returns 1 if this is a change, otherwise 0.");
        KeyScanner x = new KeyScanner();
        due("off already", x.setBlocking(false), 0);
        due("on", x.setBlocking(true), 1);
        due("on already", x.setBlocking(true), 0);
        due("off", x.setBlocking(false), 1);
        due("off again", x.setBlocking(false), 0);
        Twins.leaves(book, "setBlocking(true), on already", y -> y.setBlocking(true));
    }

    private void refusedBeginsNoVoice() {
        book.described("If the blocking rule is on (at first it is not), and the key is doubtful,"
            + " it is refused: no voice begins (its phase becomes 2 all the same).");
        KeyScanner x = Runs.matrix(2, 2);
        x.setBlocking(true);
        Runs.press(x, 2, 0, 1, 2);
        x.tick(1);
        due("refused from phase 0", Runs.key(x, 0), "2 2 0 -3 1 1 0 1");
        due("all voices are free", Runs.states(x), "0 0 0 0");
        due("entries", Runs.log(x, 2), "0:4:0 0:4:1");
        x.tick(1);
        due("the ghost is refused, too", Runs.log(x, 2), "1:4:2 1:4:3");
        x.setKey(0, 1);
        x.tick(2);
        due("on the way back", x.key(0, 1), 3);
        x.setKey(0, 2);
        x.tick(2);
        due("refused from phase 3, and the ghost with it", x.key(0, 1) * 10 + x.count(10), 26);
        Runs.press(x, 0, 1, 2);
        x.tick(2);
        due("no longer doubtful, but no strike", x.count(9), 0);
        refusedTakesNoVoice();
    }

    private void refusedTakesNoVoice() {
        KeyScanner y = Runs.matrix(2, 2);
        y.setVoices(1, 0);
        y.setBlocking(true);
        y.setKey(0, 2);
        y.tick(2);
        due("not doubtful: it sounds", Runs.voice(y, 0), "1 0 127 0 0");
        Runs.press(y, 2, 1, 2);
        y.tick(2);
        due("none is taken away by refused keys", Runs.voice(y, 0), "1 0 127 0 0");
        due("none was taken", y.count(11), 0);
        y.sustain(true);
        y.setKey(0, 1);
        y.tick(2);
        due("kept", Runs.voice(y, 0), "2 0 127 0 0");
        y.setKey(0, 2);
        y.tick(2);
        due("a refused key's own voice stays as it is", Runs.voice(y, 0), "2 0 127 0 0");
    }

    // ---- Promise 5: setLateRelease

    private void promise5() {
        book.promise(5);
        setsLateRelease();
        trueToSetIt();
        lateIsAChange();
    }

    private void setsLateRelease() {
        book.says("Sets the late release.");
        KeyScanner x = Runs.row();
        Runs.put(x, 2, 0, 1);
        x.setLateRelease(true);
        Runs.put(x, 1, 0, 1);
        due("both are held halfway", Runs.states(x), "1 1 0 0");
        x.setLateRelease(false);
        x.tick(1);
        due("taken back too late for halfway", Runs.states(x), "1 1 0 0");
        Runs.put(x, 0, 0);
        due("released where it is up", Runs.states(x), "0 1 0 0");
        Runs.put(x, 2, 1);
        Runs.put(x, 1, 1);
        due("early release", Runs.states(x), "0 0 0 0");
        x.setLateRelease(true);
        Runs.put(x, 0, 1);
        due("no second release", x.count(8), 5);
    }

    private void trueToSetIt() {
        book.says("`on`: true to set it");
        due("true", heldHalfway(true), 1);
        due("false", heldHalfway(false), 0);
    }

    private static int heldHalfway(boolean late) {
        KeyScanner x = Runs.row();
        x.setLateRelease(late);
        Runs.put(x, 2, 3);
        Runs.put(x, 1, 3);
        return x.voice(0, 0);
    }

    private void lateIsAChange() {
        book.says("Returns 1 if this is a change, otherwise 0.");
        KeyScanner x = new KeyScanner();
        due("off already", x.setLateRelease(false), 0);
        due("on", x.setLateRelease(true), 1);
        due("on already", x.setLateRelease(true), 0);
        due("off", x.setLateRelease(false), 1);
        due("off again", x.setLateRelease(false), 0);
        Twins.leaves(book, "setLateRelease(true), on already", y -> y.setLateRelease(true));
    }

    // ---- Promise 6: setSlope

    private void promise6() {
        book.promise(6);
        setsTheSlope();
        slopeOneToSixtyFour();
        previousSlope();
    }

    private void setsTheSlope() {
        book.says("Sets the slope.");
        KeyScanner x = Runs.row();
        Runs.put(x, 1, 0);
        x.tick(2);
        x.setSlope(20);
        Runs.put(x, 2, 0);
        due("the slope at the strike counts", x.voice(0, 2), 68);
        x.setSlope(1);
        due("a voice keeps its velocity", x.voice(0, 2), 68);
        due("velocity(3)", x.velocity(3), 125);
    }

    private void slopeOneToSixtyFour() {
        book.says("`slope`: 1 to 64");
        due("setSlope(1)", new KeyScanner().setSlope(1), 8);
        due("setSlope(64)", new KeyScanner().setSlope(64), 8);
        for (int slope : new int[] {0, 65, -1, 128, LEAST, GREATEST}) {
            Twins.refuses(book, "setSlope(" + slope + ")", BAD, x -> x.setSlope(slope));
        }
    }

    private void previousSlope() {
        book.says("Returns the previous slope; BAD_VALUE.");
        KeyScanner x = new KeyScanner();
        int previous = 8;
        for (int slope = 1; slope <= 64; slope++) {
            due("setSlope(" + slope + ")", x.setSlope(slope), previous);
            due("velocity(1)", x.velocity(1), Math.min(127, 128 - slope));
            previous = slope;
        }
        due("setSlope(65)", x.setSlope(65), BAD);
        due("the same slope", x.setSlope(64), 64);
        due("behind a refused one and the same one", x.setSlope(2), 64);
        Twins.leaves(book, "setSlope(5), so already", y -> y.setSlope(5));
    }

    // ---- Promise 7: setVoices

    private void promise7() {
        book.promise(7);
        setsNumberAndRule();
        greaterOnesBecomeFree();
        greaterOnesOfEachKind();
        voicesOneToEight();
        ruleZeroToTwo();
        previousNumber();
    }

    private void setsNumberAndRule() {
        book.says("Sets the number of voices and the rule by which they are taken away.");
        KeyScanner x = Runs.row();
        for (int voices = 1; voices <= 8; voices++) {
            x.setVoices(voices, 0);
            due("count(5)", x.count(5), voices);
            due("the last voice", x.voice(voices - 1, 0), 0);
            due("no voice behind it", x.voice(voices, 0), UNKNOWN);
        }
        KeyScanner y = Runs.row(3, 2);
        fillThree(y);
        for (int rule : new int[] {0, 1, 2, 1, 0, 2}) {
            y.setVoices(3, rule);
            due("nextTaken() by the rule " + rule, y.nextTaken(), rule);
        }
        y.setVoices(3, 1);
        Runs.put(y, 2, 7);
        due("the one with the least velocity is taken", y.voice(1, 1), 7);
        y.setVoices(8, 1);
        due("more voices leave those that sound", Runs.voices(y, 1), "0 7 2 -3 -3 -3 -3 -3");
        Runs.put(y, 2, 6);
        due("a new one is used", y.voice(3, 1), 6);
    }

    private void greaterOnesBecomeFree() {
        book.says("Voices with greater numbers that sound become free (with entries of the kind 2,"
            + " in ascending order).");
        KeyScanner x = Runs.row(8, 0);
        Runs.put(x, 2, 3);
        Runs.put(x, 2, 1);
        Runs.put(x, 2, 0, 2, 4, 5, 6, 7);
        x.tick(2);
        x.setVoices(1, 0);
        due("8 voices to 1", Runs.log(x, 7), "5:2:1 5:2:0 5:2:2 5:2:4 5:2:5 5:2:6 5:2:7");
        due("entries", x.count(8), 15);
        due("voice 0 sounds on", Runs.voice(x, 0), "1 3 127 0 0");
        due("none was taken away", x.count(11), 0);
        due("the strikes stay", x.count(9), 8);
        due("no voice of key 1", x.key(1, 3), NONE);
        due("its phase stays", x.key(1, 1), 2);
        Runs.put(x, 0, 1);
        due("its release does nothing", x.count(8), 15);
        x.setVoices(8, 0);
        due("they come back free", Runs.states(x), "1 0 0 0 0 0 0 0");
        for (int voice = 1; voice < 8; voice++) {
            due("voice " + voice, Runs.voice(x, voice), "0 -3 -3 -3 0");
        }
        x.tick(3);
        due("keys that are down are not struck by that", x.count(9), 8);
        Runs.put(x, 2, 1);
        due("a later strike takes the lowest free one", Runs.voice(x, 1), "1 1 127 9 0");
    }

    private void greaterOnesOfEachKind() {
        book.described("2 when a voice gets free (but not when it is taken away)");
        KeyScanner x = Runs.row(6, 0);
        Runs.put(x, 2, 0, 1, 2, 3, 4);
        x.sustain(true);
        Runs.put(x, 0, 0, 3);
        x.sostenuto(true);
        due("states", Runs.states(x), "2 1 1 2 1 0");
        x.setVoices(2, 0);
        due("held, kept and captured ones, not the free one", Runs.log(x, 3), "2:2:2 2:2:3 2:2:4");
        due("entries", x.count(8), 8);
        due("count(7)", x.count(7), 1);
        due("count(6)", x.count(6), 2);
        x.setVoices(6, 0);
        due("no pedal keeps them", Runs.states(x), "2 1 0 0 0 0");
        due("sustain goes up", x.sustain(false), 1);
        KeyScanner y = Runs.row(8, 0);
        Runs.put(y, 2, 5);
        y.setVoices(1, 0);
        due("only free ones were above", y.count(8), 1);
        due("the lowest one stays", y.voice(0, 1), 5);
    }

    private void voicesOneToEight() {
        book.says("`voices`: 1 to 8");
        due("setVoices(1, 0)", new KeyScanner().setVoices(1, 0), 4);
        due("setVoices(8, 0)", new KeyScanner().setVoices(8, 0), 4);
        for (int voices : new int[] {0, 9, -1, 16, LEAST, GREATEST}) {
            Twins.refuses(book, "setVoices(" + voices + ", 0)", BAD, x -> x.setVoices(voices, 0));
        }
    }

    private void ruleZeroToTwo() {
        book.says("`rule`: 0 to 2");
        for (int rule = 0; rule <= 2; rule++) {
            due("setVoices(3, " + rule + ")", new KeyScanner().setVoices(3, rule), 4);
        }
        for (int rule : new int[] {-1, 3, LEAST, GREATEST}) {
            Twins.refuses(book, "setVoices(1, " + rule + ")", BAD, x -> x.setVoices(1, rule));
            Twins.refuses(book, "setVoices(8, " + rule + ")", BAD, x -> x.setVoices(8, rule));
        }
        Twins.refuses(book, "setVoices(0, 3)", BAD, x -> x.setVoices(0, 3));
    }

    private void previousNumber() {
        book.says("Returns the previous number of voices; BAD_VALUE.");
        KeyScanner x = new KeyScanner();
        int previous = 4;
        for (int voices : new int[] {1, 8, 2, 7, 3, 6, 4, 5, 5, 8, 1, 1}) {
            due("setVoices(" + voices + ", 1)", x.setVoices(voices, 1), previous);
            previous = voices;
        }
        due("setVoices(9, 1)", x.setVoices(9, 1), BAD);
        due("setVoices(8, 3)", x.setVoices(8, 3), BAD);
        due("behind refused ones", x.setVoices(2, 0), 1);
        for (int kind = 0; kind < 3; kind++) {
            KeyScanner y = Twins.busy(kind);
            due("setVoices(3, " + kind + "), so already", y.setVoices(3, kind), 3);
            book.alike("what it left", y, Twins.busy(kind));
        }
    }
}
