/** Promise 12, sentence by sentence: ticks, and what scans, strikes and releases do. */
final class TickSentences {
    private static final int BAD = KeyScanner.BAD_VALUE;
    private static final int NONE = KeyScanner.NONE;
    private static final int LEAST = Integer.MIN_VALUE;
    private static final int GREATEST = Integer.MAX_VALUE;

    private final Book book;

    private TickSentences(Book book) {
        this.book = book;
    }

    static void run(Book book) {
        TickSentences tests = new TickSentences(book);
        book.promise(12);
        tests.ticks();
        tests.scans();
        tests.phases();
        tests.strikes();
        tests.voices();
        tests.takenAway();
        tests.releases();
    }

    private void due(String call, long got, long want) {
        book.due(call, got, want);
    }

    private void due(String call, String got, String want) {
        book.due(call, got, want);
    }

    // ---- ticks

    private void ticks() {
        carriesOutTicks();
        oneToThousand();
        timeThen();
        atMost512Calls();
    }

    private void carriesOutTicks() {
        book.says("Carries out ticks.");
        for (int rows = 1; rows <= 8; rows++) {
            for (int ticks = 1; ticks <= 2 * rows + 1; ticks++) {
                KeyScanner x = struckColumn(rows);
                KeyScanner y = struckColumn(rows);
                x.tick(ticks);
                for (int i = 0; i < ticks; i++) {
                    y.tick(1);
                }
                due(ticks + " ticks of " + rows + " rows", Twins.tell(x), Twins.tell(y));
            }
        }
        fullAndEmptyMatrix();
        KeyScanner x = struckColumn(3);
        KeyScanner y = struckColumn(3);
        x.tick(200);
        for (int i = 0; i < 200; i++) {
            y.tick(1);
        }
        due("200 ticks", Twins.tell(x), Twins.tell(y));
    }

    private void fullAndEmptyMatrix() {
        KeyScanner full = Runs.matrix(8, 8);
        full.setVoices(8, 0);
        for (int key = 0; key < 64; key++) {
            full.setKey(key, 2);
        }
        full.tick(1000);
        due("a full matrix", Runs.counts(full), "1000 64 64 0 64 8 8 0 120 64 0 56");
        due("its last keys sound", Runs.voices(full, 1), "56 57 58 59 60 61 62 63");
        due("the end of its log", Runs.log(full, 4), "7:3:54 7:1:62 7:3:55 7:1:63");
        due("all keys are struck", Runs.keys(full, 1), Runs.times(64, 2));
        KeyScanner empty = Runs.matrix(8, 8);
        empty.tick(1000);
        due("an empty matrix", Runs.counts(empty), "1000 64 0 0 0 4 0 0 0 0 0 0");
    }

    /** A column whose keys are in all positions and phases, in the middle of a round. */
    private static KeyScanner struckColumn(int rows) {
        KeyScanner x = Runs.matrix(rows, 1);
        for (int key = 0; key < rows; key++) {
            x.setKey(key, (key + 2) % 3);
        }
        x.tick(rows + 1);
        for (int key = 0; key < rows; key++) {
            x.setKey(key, (key * 2 + 1) % 3);
        }
        return x;
    }

    private void oneToThousand() {
        book.says("`ticks`: 1 to 1000");
        due("tick(1)", new KeyScanner().tick(1), 1);
        due("tick(1000)", new KeyScanner().tick(1000), 1000);
        for (int ticks : new int[] {0, 1001, -1, LEAST, GREATEST}) {
            Twins.refuses(book, "tick(" + ticks + ")", BAD, x -> x.tick(ticks));
        }
    }

    private void timeThen() {
        book.says("Returns the time then; BAD_VALUE.");
        KeyScanner x = Runs.matrix(3, 2);
        int time = 0;
        for (int ticks : new int[] {1, 1, 2, 3, 4, 999, 1000, 1, 7}) {
            time += ticks;
            due("tick(" + ticks + ")", x.tick(ticks), time);
            due("count(0)", x.count(0), time);
        }
        due("tick(0)", x.tick(0), BAD);
        due("the time stays", x.count(0), time);
        x.reset(3, 2);
        due("behind reset", x.tick(2), 2);
    }

    private void atMost512Calls() {
        book.head("An object is used for at most 512 calls after it has been made;");
        KeyScanner x = new KeyScanner();
        x.setSlope(64);
        x.setKey(15, 1);
        for (int i = 1; i <= 500; i++) {
            x.tick(1000);
        }
        due("time", x.count(0), 500000);
        x.setKey(15, 2);
        x.setKey(0, 1);
        due("four ticks more", x.tick(4), 500004);
        due("velocity after so long", x.voice(0, 2), 1);
        due("time of the voice", x.voice(0, 3), 500003);
        due("time of the entry", x.log(0, 0), 500003);
        due("a beginning so late", x.key(0, 2), 500000);
        due("a beginning so early", x.key(15, 2), 3);
        due("the 512th call", x.liftAll(), 2);
    }

    // ---- scanning

    private void scans() {
        timeIsCounted();
        rowByRow();
        rowsOfEachNumber();
        presentPositions();
    }

    private void timeIsCounted() {
        book.described("The time is counted in ticks, 0 at first.");
        KeyScanner x = Runs.row();
        for (int time = 0; time < 5; time++) {
            due("time", x.count(0), time);
            Runs.put(x, time % 2 == 0 ? 2 : 0, 3);
            due("entry in the tick", x.log(0, 0), time);
        }
    }

    private void rowByRow() {
        book.described("In a tick, the keys of one row are scanned, in ascending order; this is the"
            + " row (time % rows), with the time before the tick; then the time increases by 1.");
        KeyScanner x = Runs.matrix(3, 2);
        x.setDiodes(true);
        x.setVoices(8, 0);
        Runs.press(x, 2, 5, 4, 3, 2, 1, 0);
        x.tick(1);
        due("row 0", Runs.keys(x, 1), "2 2 0 0 0 0");
        x.tick(1);
        due("row 1", Runs.keys(x, 1), "2 2 2 2 0 0");
        x.tick(1);
        due("row 2", Runs.keys(x, 1), "2 2 2 2 2 2");
        due("in ascending order", Runs.log(x, 6), "0:1:0 0:1:1 1:1:2 1:1:3 2:1:4 2:1:5");
        due("voices in the same order", Runs.voices(x, 1), "0 1 2 3 4 5 -3 -3");
        x.liftAll();
        x.tick(1);
        due("behind the last row the first one again", Runs.keys(x, 1), "0 0 2 2 2 2");
        due("at the time 3", Runs.log(x, 2), "3:2:0 3:2:1");
        x.tick(2);
        due("all rows", Runs.keys(x, 1), "0 0 0 0 0 0");
    }

    private void rowsOfEachNumber() {
        book.described("this is the row (time % rows), with the time before the tick;");
        for (int rows = 1; rows <= 8; rows++) {
            KeyScanner x = Runs.matrix(rows, 1);
            x.setVoices(8, 0);
            x.setDiodes(true);
            x.tick(997);
            for (int key = 0; key < rows; key++) {
                x.setKey(key, 2);
            }
            for (int time = 997; time < 997 + rows; time++) {
                int key = time % rows;
                due("not yet at " + time + " of " + rows + " rows", x.key(key, 1), 0);
                x.tick(1);
                due("at " + time + " of " + rows + " rows", x.key(key, 1), 2);
                due("its entry", Runs.log(x, 1), time + ":1:" + key);
            }
        }
    }

    private void presentPositions() {
        book.described("All appearances are those of the present positions.");
        KeyScanner x = Runs.matrix(2, 2);
        Runs.press(x, 2, 0, 1, 2);
        x.tick(1);
        x.setKey(1, 0);
        x.tick(1);
        due("no ghost any more behind row 0", Runs.keys(x, 1), "2 2 2 0");
        x.setKey(3, 2);
        due("key 1 is a ghost now", x.key(1, 6), 1);
        x.tick(1);
        due("so it stays struck", x.key(1, 1), 2);
        due("and its voice", x.key(1, 3), 1);
        x.setKey(3, 0);
        x.setKey(1, 2);
        x.tick(2);
        due("a ghost in the next row", x.key(3, 1), 2);
    }

    // ---- the four phases

    private void phases() {
        fourStepsOnce();
        atRest();
        onTheWay();
        struck();
        lateRelease();
        onTheWayBack();
    }

    private void fourStepsOnce() {
        book.described("it is scanned like this, where the four steps are gone through once, in"
            + " this order, each by the phase as it is then (all times are those before the"
            + " tick):");
        KeyScanner x = Runs.row();
        x.tick(5);
        Runs.put(x, 2, 0);
        due("from 0 to 2 in one scan", Runs.key(x, 0), "2 2 5 0 1 1 0 0");
        due("one strike", Runs.log(x, 1), "5:1:0");
        Runs.put(x, 0, 0);
        due("from 2 to 0 in one scan", Runs.key(x, 0), "0 0 0 -3 0 0 0 0");
        due("one release", Runs.log(x, 2), "5:1:0 6:2:0");
        due("entries", x.count(8), 2);
        Runs.put(x, 1, 0);
        due("from 0 to 1", x.key(0, 1), 1);
        Runs.put(x, 2, 0);
        Runs.put(x, 1, 0);
        due("from 2 to 3", x.key(0, 1), 3);
        due("entries then", Runs.log(x, 2), "8:1:0 9:2:0");
    }

    private void atRest() {
        book.described("Phase 0 (at rest): if its first contact appears closed, its phase becomes"
            + " 1, and its beginning the time.");
        KeyScanner x = Runs.row();
        x.tick(3);
        due("open: it stays", Runs.numbers(x.key(2, 1), x.key(2, 2)), "0 0");
        Runs.put(x, 1, 2);
        due("closed", Runs.numbers(x.key(2, 1), x.key(2, 2)), "1 3");
        due("no entry", x.count(8), 0);
        KeyScanner y = Runs.matrix(2, 2);
        Runs.press(y, 1, 0, 1, 2);
        y.tick(2);
        due("a ghost's contact appears closed, too", Runs.numbers(y.key(3, 1), y.key(3, 2)),
            "1 1");
        KeyScanner z = Runs.matrix(2, 2);
        z.setDiodes(true);
        Runs.press(z, 1, 0, 1, 2);
        z.tick(2);
        due("with diodes it stays", z.key(3, 1), 0);
    }

    private void onTheWay() {
        book.described("Phase 1 (on the way): if its second contact appears closed, it is struck,"
            + " and its phase becomes 2; otherwise, if its first contact does not appear closed,"
            + " its phase becomes 0.");
        KeyScanner x = Runs.row();
        Runs.put(x, 1, 2);
        x.tick(2);
        due("halfway: it stays, and its beginning", Runs.numbers(x.key(2, 1), x.key(2, 2)), "1 0");
        Runs.put(x, 2, 2);
        due("down: struck, its beginning stays", Runs.numbers(x.key(2, 1), x.key(2, 2)), "2 0");
        due("its voice", Runs.voice(x, 0), "1 2 104 3 0");
        Runs.put(x, 1, 4);
        Runs.put(x, 0, 4);
        due("up: at rest", Runs.numbers(x.key(4, 1), x.key(4, 2)), "0 0");
        due("without a strike or a release", x.count(8), 1);
        Runs.put(x, 1, 4);
        due("a new beginning", Runs.numbers(x.key(4, 1), x.key(4, 2)), "1 6");
        KeyScanner y = Runs.matrix(2, 2);
        Runs.press(y, 1, 0, 1, 2);
        y.tick(2);
        Runs.press(y, 2, 0, 1, 2);
        y.tick(2);
        due("a ghost is struck", Runs.key(y, 3), "0 2 1 3 1 1 1 1");
        due("its velocity", y.voice(3, 2), 120);
    }

    private void struck() {
        book.described("Phase 2 (struck), only if it was in this phase before the scan: if its"
            + " second contact does not appear closed, it is released, unless the late release"
            + " is set; its phase becomes 3, and its beginning the time.");
        KeyScanner x = Runs.row();
        Runs.put(x, 2, 6);
        x.tick(3);
        due("down: it stays", Runs.key(x, 6), "2 2 0 0 1 1 0 0");
        due("and is struck once", x.count(8), 1);
        Runs.put(x, 1, 6);
        due("halfway: on the way back", Runs.key(x, 6), "1 3 4 -3 1 0 0 0");
        due("released", Runs.log(x, 1), "4:2:6");
        KeyScanner y = Runs.matrix(2, 2);
        Runs.press(y, 2, 0, 1, 2);
        y.tick(2);
        y.setKey(0, 1);
        y.tick(2);
        due("a ghost's first contact is left", Runs.key(y, 3), "0 3 3 -3 1 0 1 1");
        due("entries", Runs.log(y, 2), "2:2:0 3:2:3");
    }

    private void lateRelease() {
        book.described("it is released, unless the late release is set;");
        KeyScanner x = Runs.row();
        x.setLateRelease(true);
        Runs.put(x, 2, 6);
        Runs.put(x, 1, 6);
        due("halfway: not released", Runs.key(x, 6), "1 3 1 0 1 0 0 0");
        due("its voice", Runs.voice(x, 0), "1 6 127 0 0");
        Runs.put(x, 0, 6);
        due("up: released", Runs.key(x, 6), "0 0 0 -3 0 0 0 0");
        due("its entry", Runs.log(x, 1), "2:2:6");
        Runs.put(x, 2, 6);
        Runs.put(x, 0, 6);
        due("from down to up in one scan", Runs.log(x, 2), "3:1:6 4:2:6");
        due("entries", x.count(8), 4);
    }

    private void onTheWayBack() {
        book.described("Phase 3 (on the way back): if its second contact appears closed, it is"
            + " struck, and its phase becomes 2; otherwise, if its first contact does not appear"
            + " closed, it is released, and its phase becomes 0.");
        KeyScanner x = Runs.row();
        Runs.put(x, 2, 5);
        Runs.put(x, 1, 5);
        x.tick(4);
        due("halfway: it stays, and its beginning", Runs.numbers(x.key(5, 1), x.key(5, 2)), "3 1");
        Runs.put(x, 2, 5);
        due("down: struck again", Runs.key(x, 5), "2 2 1 0 1 1 0 0");
        due("its voice", Runs.voice(x, 0), "1 5 88 6 0");
        Runs.put(x, 1, 5);
        Runs.put(x, 0, 5);
        due("up: at rest", Runs.key(x, 5), "0 0 0 -3 0 0 0 0");
        due("released once", Runs.log(x, 2), "6:1:5 7:2:5");
        due("entries", x.count(8), 4);
        x.setLateRelease(true);
        Runs.put(x, 2, 5);
        Runs.put(x, 1, 5);
        x.tick(1);
        Runs.put(x, 2, 5);
        due("struck again in its voice", Runs.voice(x, 0), "1 5 112 12 0");
        Runs.put(x, 1, 5);
        Runs.put(x, 0, 5);
        due("released where it is up", Runs.log(x, 3), "9:1:5 12:1:5 14:2:5");
    }

    // ---- striking: the velocity

    private void strikes() {
        velocityOfRounds();
        slopesOfStrikes();
        roundsSinceTheBeginning();
    }

    private void velocityOfRounds() {
        book.described("The velocity is 128 - slope * n, but at most 127 and at least 1,");
        due("n = 0: at most 127", struckAfter(8, 0), 127);
        due("n = 1", struckAfter(8, 1), 120);
        due("n = 15", struckAfter(8, 15), 8);
        due("n = 16: 0, but at least 1", struckAfter(8, 16), 1);
        due("n = 17: below 0", struckAfter(8, 17), 1);
        due("slope 1, n = 0", struckAfter(1, 0), 127);
        due("slope 1, n = 1: just 127", struckAfter(1, 1), 127);
        due("slope 1, n = 2", struckAfter(1, 2), 126);
        due("slope 1, n = 126", struckAfter(1, 126), 2);
        due("slope 1, n = 127: just 1", struckAfter(1, 127), 1);
        due("slope 1, n = 128", struckAfter(1, 128), 1);
        due("slope 64, n = 0", struckAfter(64, 0), 127);
        due("slope 64, n = 1", struckAfter(64, 1), 64);
        due("slope 64, n = 2", struckAfter(64, 2), 1);
        due("slope 64, n = 1000", struckAfter(64, 1000), 1);
    }

    private static int struckAfter(int slope, int rounds) {
        KeyScanner x = Runs.row();
        x.setSlope(slope);
        Runs.strike(x, 7, rounds);
        return x.voice(0, 2);
    }

    private void slopesOfStrikes() {
        book.described("with the slope (1 to 64, at first 8)");
        for (int slope = 1; slope <= 64; slope++) {
            due("slope " + slope, struckAfter(slope, 1), Math.min(127, 128 - slope));
        }
    }

    private void roundsSinceTheBeginning() {
        book.described("and n as the number of rounds since the beginning: (time - beginning) /"
            + " rows.");
        for (int rows = 1; rows <= 8; rows++) {
            for (int row = 0; row < rows; row++) {
                KeyScanner x = Runs.matrix(rows, 2);
                x.tick(3);
                x.setKey(2 * row + 1, 1);
                x.tick(4 * rows);
                int beginning = x.key(2 * row + 1, 2);
                due("beginning in row " + row + " of " + rows, beginning % rows, row);
                x.setKey(2 * row + 1, 2);
                x.tick(rows);
                due("time in row " + row + " of " + rows, x.voice(0, 3), beginning + 4 * rows);
                due("velocity in row " + row + " of " + rows, x.voice(0, 2), 96);
            }
        }
        KeyScanner y = Runs.matrix(5, 1);
        y.setKey(4, 2);
        y.tick(5);
        y.setKey(4, 1);
        y.tick(15);
        y.setKey(4, 2);
        y.tick(5);
        due("from the beginning of the way back", y.voice(0, 2), 104);
    }

    // ---- striking: the voices

    private void voices() {
        refusedOrNot();
        soundsAnew();
        lowestFreeVoice();
        heldWhenItBegins();
        oneToEightVoices();
    }

    private void refusedOrNot() {
        book.described("If the blocking rule is on (at first it is not), and the key is doubtful,"
            + " it is refused: no voice begins (its phase becomes 2 all the same).");
        for (int on = 0; on <= 1; on++) {
            for (int doubtful = 0; doubtful <= 1; doubtful++) {
                KeyScanner x = Runs.matrix(2, 2);
                x.setDiodes(true);
                x.setBlocking(on == 1);
                Runs.press(x, 1, 0, 1, 2);
                if (doubtful == 1) {
                    x.setKey(3, 1);
                }
                x.setKey(0, 2);
                x.tick(2);
                boolean refused = on == 1 && doubtful == 1;
                String text = "blocking " + on + ", doubtful " + doubtful;
                due(text + ", its phase", x.key(0, 1), 2);
                due(text + ", its voice", x.key(0, 3), refused ? NONE : 0);
                due(text + ", entry", Runs.log(x, 1), refused ? "0:4:0" : "0:1:0");
                due(text + ", counts", Runs.numbers(x.count(9), x.count(10)),
                    refused ? "0 1" : "1 0");
            }
        }
        refusedInAFullMatrix();
        refusedWithAHeldVoice();
        doubtfulAtTheStrike();
    }

    private void refusedInAFullMatrix() {
        KeyScanner full = Runs.matrix(8, 8);
        full.setBlocking(true);
        for (int key = 0; key < 64; key++) {
            full.setKey(key, 2);
        }
        full.tick(8);
        due("a full matrix", Runs.counts(full), "8 64 64 0 64 4 0 0 64 0 64 0");
    }

    private void refusedWithAHeldVoice() {
        KeyScanner late = Runs.matrix(2, 2);
        late.setLateRelease(true);
        late.setKey(0, 2);
        late.tick(2);
        Runs.press(late, 1, 0, 1, 2);
        late.tick(2);
        late.setBlocking(true);
        late.setKey(0, 2);
        late.tick(2);
        due("a key refused while its voice is held", late.count(10), 1);
        due("its voice stays as it was", Runs.voice(late, 0), "1 0 127 0 0");
        late.liftAll();
        late.tick(2);
        due("and is released with the key", late.voice(0, 0), 0);
    }

    private void doubtfulAtTheStrike() {
        KeyScanner y = Runs.matrix(2, 2);
        y.setBlocking(true);
        Runs.press(y, 1, 0, 1);
        y.tick(2);
        y.setKey(0, 2);
        y.setKey(2, 1);
        y.tick(2);
        due("doubtful only at the strike", y.count(10), 1);
        y.setKey(0, 0);
        y.setKey(2, 0);
        y.setKey(1, 2);
        y.tick(2);
        due("no longer doubtful at the strike", y.count(9), 1);
    }

    private void soundsAnew() {
        book.described("Otherwise, if there is a voice with this key, this voice sounds anew;");
        KeyScanner x = Runs.row(3, 0);
        Runs.put(x, 2, 0, 1, 2);
        Runs.put(x, 0, 0);
        x.sustain(true);
        Runs.put(x, 0, 2);
        due("voice 0 is free, voice 2 kept", Runs.states(x), "0 1 2");
        Runs.strike(x, 2, 2);
        due("the kept one sounds anew, not the free one", Runs.voice(x, 2), "1 2 112 5 0");
        due("states", Runs.states(x), "0 1 1");
        due("only an entry 1", Runs.log(x, 2), "1:2:0 5:1:2");
        Runs.put(x, 2, 5);
        Runs.put(x, 0, 5);
        x.setVoices(3, 2);
        due("none is free", x.nextTaken(), 0);
        Runs.put(x, 0, 1);
        Runs.put(x, 2, 1);
        due("none is taken where the key has one", Runs.voices(x, 1), "5 1 2");
        due("none was taken", x.count(11), 0);
        KeyScanner y = Runs.row();
        y.setLateRelease(true);
        Runs.put(y, 2, 4);
        Runs.put(y, 1, 4);
        Runs.put(y, 2, 4);
        due("a held one sounds anew", Runs.voice(y, 0), "1 4 120 2 0");
        due("one voice sounds", y.count(6), 1);
        due("two strikes", y.count(9), 2);
    }

    private void lowestFreeVoice() {
        book.described("if there is none, the free voice with the lowest number begins to sound;");
        KeyScanner x = Runs.row(8, 0);
        Runs.put(x, 2, 7, 6, 5, 4, 3, 2, 1);
        due("in their order", Runs.voices(x, 1), "1 2 3 4 5 6 7 -3");
        Runs.put(x, 2, 0);
        due("the last one", Runs.voices(x, 1), "1 2 3 4 5 6 7 0");
        Runs.put(x, 0, 5, 3);
        due("two free ones", Runs.states(x), "1 1 0 1 0 1 1 1");
        Runs.put(x, 2, 5);
        due("the lower one", x.key(5, 3), 2);
        Runs.put(x, 2, 3);
        due("the other one", x.key(3, 3), 4);
        due("none was taken", x.count(11), 0);
    }

    private void heldWhenItBegins() {
        book.described("A voice that sounds has its key, its velocity, the time at which it began"
            + " (anew), and is held or kept; when it begins or sounds anew, it is held.");
        KeyScanner x = Runs.row();
        x.sustain(true);
        Runs.strike(x, 6, 3);
        due("it begins", Runs.voice(x, 0), "1 6 104 3 0");
        Runs.put(x, 0, 6);
        due("kept, all else stays", Runs.voice(x, 0), "2 6 104 3 0");
        Runs.strike(x, 6, 1);
        due("anew", Runs.voice(x, 0), "1 6 120 6 0");
        x.setVoices(1, 0);
        Runs.put(x, 0, 6);
        Runs.put(x, 2, 2);
        due("a kept one that is taken is held", Runs.voice(x, 0), "1 2 127 8 0");
    }

    private void oneToEightVoices() {
        book.described("There are 1 to 8 voices (at first 4), numbered from 0.");
        for (int voices = 1; voices <= 8; voices++) {
            KeyScanner x = Runs.row(voices, 0);
            Runs.put(x, 2, 0, 1, 2, 3, 4, 5, 6, 7);
            due("sounding of " + voices, x.count(6), voices);
            due("taken of " + voices, x.count(11), 8 - voices);
            due("strikes of " + voices, x.count(9), 8);
        }
    }

    // ---- striking: voices that are taken away

    private void takenAway() {
        takenFromItsKey();
        ruleZero();
        ruleOne();
        ruleTwo();
    }

    private void takenFromItsKey() {
        book.described("if no voice is free, a voice is taken from its key:");
        KeyScanner x = Runs.row(1, 0);
        Runs.put(x, 2, 3);
        Runs.strike(x, 5, 2);
        due("its new key", Runs.voice(x, 0), "1 5 112 3 0");
        due("key 3 has none", x.key(3, 3), NONE);
        due("its phase stays", x.key(3, 1), 2);
        due("entries", Runs.log(x, 3), "0:1:3 3:3:3 3:1:5");
        due("taken away", x.count(11), 1);
        Runs.put(x, 1, 3);
        Runs.put(x, 2, 3);
        due("struck again, it takes a voice", Runs.voice(x, 0), "1 3 120 5 0");
        due("entries then", Runs.log(x, 2), "5:3:5 5:1:3");
    }

    private void ruleZero() {
        book.described("by the rule 0 the one whose time at which it began (anew) is the least (of"
            + " several the lowest one);");
        KeyScanner x = Runs.row(3, 0);
        Runs.strike(x, 0, 0);
        Runs.strike(x, 1, 9);
        Runs.strike(x, 2, 0);
        x.sustain(true);
        Runs.put(x, 0, 2);
        takes("the eldest, neither the softest nor the kept one", x, 3, 0);
        Runs.put(x, 0, 1);
        Runs.put(x, 2, 1);
        takes("anew it is young", x, 4, 2);
        takes("then the one that was taken first", x, 5, 0);
        KeyScanner y = Runs.row(3, 0);
        Runs.put(y, 2, 0, 1, 2);
        takes("of three of one time the lowest", y, 3, 0);
        takes("of two the lower", y, 4, 1);
        takes("the last", y, 5, 2);
        takes("and anew", y, 6, 0);
        KeyScanner z = Runs.row(8, 0);
        Runs.put(z, 2, 0, 1, 2, 3, 4, 5, 6, 7);
        z.sustain(true);
        Runs.put(z, 0, 0, 1, 2, 3, 4, 5, 6);
        Runs.put(z, 2, 0, 1, 2, 3, 4, 5, 6);
        due("the last of eight", z.nextTaken(), 7);
    }

    private void ruleOne() {
        book.described("by the rule 1 the one with the least velocity (of several the one that"
            + " began first, then the lowest one);");
        KeyScanner x = Runs.row(3, 1);
        Runs.strike(x, 0, 0);
        Runs.strike(x, 1, 1);
        Runs.strike(x, 2, 2);
        takes("the softest, though the youngest", x, 3, 2);
        takes("then the next one", x, 4, 1);
        KeyScanner y = Runs.row(3, 1);
        y.setLateRelease(true);
        Runs.strike(y, 0, 3);
        Runs.strike(y, 1, 3);
        Runs.strike(y, 2, 0);
        Runs.put(y, 1, 0);
        y.tick(2);
        Runs.put(y, 2, 0);
        due("velocities", Runs.voices(y, 2), "104 104 127");
        takes("of equal ones the one that began first", y, 3, 1);
        takes("the other one", y, 4, 0);
        KeyScanner z = Runs.row(3, 1);
        Runs.strike(z, 7, 0);
        Runs.press(z, 1, 0, 1);
        z.tick(2);
        Runs.put(z, 2, 0, 1);
        due("times", Runs.voices(z, 3), "0 3 3");
        takes("of equal ones of one time the lowest", z, 2, 1);
        takes("the other one of them", z, 3, 2);
        takes("at last the loud ones, the eldest first", z, 4, 0);
        KeyScanner w = Runs.row(2, 1);
        Runs.strike(w, 0, 0);
        Runs.strike(w, 1, 5);
        w.sustain(true);
        Runs.put(w, 0, 0);
        takes("held or kept is all the same", w, 2, 1);
    }

    private void ruleTwo() {
        book.described("by the rule 2 as by the rule 0, but of those that are kept, if there are"
            + " any (otherwise of all).");
        KeyScanner x = Runs.row(4, 2);
        Runs.strike(x, 0, 0);
        Runs.strike(x, 1, 5);
        Runs.strike(x, 2, 0);
        Runs.strike(x, 3, 0);
        x.sustain(true);
        due("none kept: the eldest", x.nextTaken(), 0);
        Runs.put(x, 0, 3);
        due("the kept one, though the youngest", x.nextTaken(), 3);
        Runs.put(x, 0, 2);
        takes("of two kept ones the eldest", x, 4, 2);
        takes("then the other one", x, 5, 3);
        takes("none is kept any more: of all", x, 6, 0);
        KeyScanner y = Runs.row(4, 2);
        Runs.put(y, 2, 0);
        Runs.put(y, 2, 1, 2, 3);
        y.sustain(true);
        Runs.put(y, 0, 3, 2);
        takes("of two kept ones of one time the lower", y, 4, 2);
        y.liftAll();
        y.tick(1);
        due("all are kept", Runs.states(y), "2 2 2 2");
        takes("all kept: the eldest of all", y, 5, 0);
        KeyScanner z = Runs.row(2, 2);
        Runs.put(z, 2, 0, 1);
        takes("none kept, of one time: the lowest", z, 2, 0);
    }

    /** Strikes a key that has no voice; the voice must be taken from another key for it. */
    private void takes(String what, KeyScanner x, int key, int voice) {
        due(what + ": nextTaken()", x.nextTaken(), voice);
        int other = x.voice(voice, 1);
        int taken = x.count(11);
        Runs.put(x, 2, key);
        int time = x.count(0) - 1;
        due(what + ": its voice", x.key(key, 3), voice);
        due(what + ": entries", Runs.log(x, 2), time + ":3:" + other + " " + time + ":1:" + key);
        due(what + ": taken away", x.count(11), taken + 1);
    }

    // ---- releasing

    private void releases() {
        releaseWithoutAVoice();
        releaseOfAHeldVoice();
    }

    private void releaseWithoutAVoice() {
        book.described("If there is a held voice with the key (otherwise nothing happens),");
        KeyScanner x = Runs.matrix(2, 2);
        x.setBlocking(true);
        Runs.press(x, 2, 0, 1, 2, 3);
        x.tick(2);
        x.liftAll();
        x.tick(2);
        due("refused keys", Runs.counts(x), "4 4 0 0 0 4 0 0 4 0 4 0");
        KeyScanner y = Runs.row(2, 0);
        Runs.put(y, 2, 0, 1);
        y.setVoices(1, 0);
        Runs.put(y, 0, 1);
        due("a key whose voice became free", Runs.log(y, 3), "0:1:0 0:1:1 1:2:1");
        due("no other entry", y.count(8), 3);
        Runs.put(y, 2, 2);
        Runs.put(y, 0, 0);
        due("a key whose voice was taken away", Runs.voice(y, 0), "1 2 127 2 0");
        due("entries", y.count(8), 5);
    }

    private void releaseOfAHeldVoice() {
        book.described("it becomes kept if the sustain pedal is down, or if the sostenuto pedal is"
            + " down and the voice was captured; otherwise it is free.");
        KeyScanner x = Runs.row();
        Runs.put(x, 2, 0, 1, 2);
        x.sostenuto(true);
        Runs.put(x, 2, 3);
        Runs.put(x, 0, 0, 3);
        due("captured: kept; the other one is free", Runs.states(x), "2 1 1 0");
        due("its entry, the time of the scan", Runs.log(x, 1), "2:2:3");
        x.sustain(true);
        Runs.put(x, 2, 3);
        Runs.put(x, 0, 3);
        due("kept by the sustain pedal", Runs.states(x), "2 1 1 2");
        x.sustain(false);
        due("it goes with it", Runs.states(x), "2 1 1 0");
        x.sostenuto(false);
        Runs.put(x, 0, 1);
        due("both pedals up", Runs.states(x), "0 0 1 0");
    }
}
