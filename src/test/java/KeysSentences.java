/** Promises 8 to 11, sentence by sentence: keys and pedals. */
final class KeysSentences {
    private static final int BAD = KeyScanner.BAD_VALUE;
    private static final int NONE = KeyScanner.NONE;
    private static final int UNKNOWN = KeyScanner.UNKNOWN;
    private static final int LEAST = Integer.MIN_VALUE;
    private static final int GREATEST = Integer.MAX_VALUE;

    private final Book book;

    private KeysSentences(Book book) {
        this.book = book;
    }

    static void run(Book book) {
        KeysSentences tests = new KeysSentences(book);
        tests.promise8();
        tests.promise9();
        tests.promise10();
        tests.promise11();
    }

    private void due(String call, long got, long want) {
        book.due(call, got, want);
    }

    private void due(String call, String got, String want) {
        book.due(call, got, want);
    }

    // ---- Promise 8: setKey

    private void promise8() {
        book.promise(8);
        movesAKey();
        eachKey();
        positionsZeroToTwo();
        previousPosition();
        contactsOfPositions();
    }

    private void movesAKey() {
        book.says("Moves a key.");
        KeyScanner x = Runs.matrix(2, 2);
        x.setKey(1, 2);
        x.setKey(2, 1);
        due("positions", Runs.keys(x, 0), "0 2 1 0");
        due("no scan by itself", Runs.keys(x, 1), "0 0 0 0");
        due("no tick by itself", x.count(0), 0);
        due("no entry by itself", x.count(8), 0);
        x.tick(2);
        x.setKey(1, 0);
        due("only this one moved", Runs.keys(x, 0), "0 0 1 0");
        due("its phase waits for the scan", x.key(1, 1), 2);
        due("its voice, too", x.voice(0, 0), 1);
    }

    private void eachKey() {
        book.says("`key`: a key");
        for (int[] shape : new int[][] {{1, 1}, {1, 8}, {8, 1}, {4, 4}, {8, 8}}) {
            KeyScanner x = Runs.matrix(shape[0], shape[1]);
            int keys = shape[0] * shape[1];
            due("key 0 of " + keys, x.setKey(0, 1), 0);
            due("key 0 moved", x.key(0, 0), 1);
            due("the last key of " + keys, x.setKey(keys - 1, 2), keys == 1 ? 1 : 0);
            due("the last key moved", x.key(keys - 1, 0), 2);
            due("the key behind it", x.setKey(keys, 1), UNKNOWN);
            due("the key ahead of 0", x.setKey(-1, 1), UNKNOWN);
            due("pressed keys", x.count(2), keys == 1 ? 1 : 2);
        }
        KeyScanner y = Runs.matrix(8, 8);
        y.reset(2, 3);
        due("a key of the matrix before", y.setKey(63, 1), UNKNOWN);
        due("key 6 of 6", y.setKey(6, 1), UNKNOWN);
        due("key 5 of 6", y.setKey(5, 1), 0);
        for (int key : new int[] {8, -1, 64, LEAST, GREATEST}) {
            for (int position = 0; position <= 2; position++) {
                int to = position;
                Twins.refuses(book, "setKey(" + key + ", " + to + ")", UNKNOWN,
                    x -> x.setKey(key, to));
            }
        }
    }

    private void positionsZeroToTwo() {
        book.says("`position`: 0 to 2");
        for (int position = 0; position <= 2; position++) {
            KeyScanner x = new KeyScanner();
            due("setKey(3, " + position + ")", x.setKey(3, position), 0);
            due("then", x.key(3, 0), position);
        }
        for (int position : new int[] {-1, 3, LEAST, GREATEST}) {
            for (int key : new int[] {0, 2, 5, 7}) {
                Twins.refuses(book, "setKey(" + key + ", " + position + ")", BAD,
                    x -> x.setKey(key, position));
            }
        }
    }

    private void previousPosition() {
        book.says("Returns the previous position; UNKNOWN; BAD_VALUE.");
        for (int from = 0; from <= 2; from++) {
            for (int to = 0; to <= 2; to++) {
                KeyScanner x = new KeyScanner();
                x.setKey(9, from);
                due("from " + from + " to " + to, x.setKey(9, to), from);
                due("from " + to + " on", x.setKey(9, 0), to);
            }
        }
        Twins.refuses(book, "setKey(8, 3)", UNKNOWN, x -> x.setKey(8, 3));
        Twins.refuses(book, "setKey(-1, -1)", UNKNOWN, x -> x.setKey(-1, -1));
        for (int key = 0; key < 8; key++) {
            int same = key;
            Twins.leaves(book, "setKey(" + key + ", its position)",
                x -> x.setKey(same, x.key(same, 0)));
        }
    }

    private void contactsOfPositions() {
        book.described("Each key has a first and a second contact, and a position: 0 up (both"
            + " contacts are open), 1 halfway (the first one is closed), 2 down (both are"
            + " closed).");
        KeyScanner x = new KeyScanner();
        int[][] moves = {{1, 1, 0}, {2, 1, 1}, {1, 1, 0}, {0, 0, 0}, {2, 1, 1}, {0, 0, 0}};
        for (int[] move : moves) {
            x.setKey(6, move[0]);
            due("first contact in position " + move[0], x.key(6, 4), move[1]);
            due("second contact in position " + move[0], x.key(6, 5), move[2]);
            due("no ghost in position " + move[0], x.key(6, 6), 0);
        }
    }

    // ---- Promise 9: liftAll

    private void promise9() {
        book.promise(9);
        movesAllUp();
        keysThatWereNotUp();
    }

    private void movesAllUp() {
        book.says("Moves all keys up.");
        KeyScanner x = Runs.matrix(2, 4);
        Runs.press(x, 2, 0, 1, 4);
        Runs.press(x, 1, 7);
        x.tick(2);
        String phases = Runs.keys(x, 1);
        due("phases with a ghost of both and one of first contacts", phases, "2 2 0 1 2 2 0 1");
        x.liftAll();
        due("positions", Runs.keys(x, 0), Runs.times(8, 0));
        due("first contacts", Runs.keys(x, 4), Runs.times(8, 0));
        due("second contacts", Runs.keys(x, 5), Runs.times(8, 0));
        due("connected(0)", x.connected(0), 1);
        due("phases wait for the scan", Runs.keys(x, 1), phases);
        due("voices wait for it, too", Runs.states(x), "1 1 1 1");
        due("no time passes", x.count(0), 2);
        due("no entry", x.count(8), 4);
        x.tick(2);
        due("then all are at rest", Runs.keys(x, 1), Runs.times(8, 0));
        due("entries of the releases", Runs.log(x, 4), "2:2:0 2:2:1 3:2:4 3:2:5");
    }

    private void keysThatWereNotUp() {
        book.says("Returns the number of keys that were not up.");
        due("all were up", new KeyScanner().liftAll(), 0);
        KeyScanner x = Runs.matrix(8, 8);
        Runs.press(x, 1, 63);
        due("the last one halfway", x.liftAll(), 1);
        due("none any more", x.liftAll(), 0);
        Runs.press(x, 2, 0, 1, 8);
        Runs.press(x, 1, 18);
        due("four, the ghost isn't one", x.liftAll(), 4);
        for (int key = 0; key < 64; key++) {
            x.setKey(key, 1 + key % 2);
        }
        due("all of them", x.liftAll(), 64);
        due("none again", x.liftAll(), 0);
        KeyScanner y = Runs.matrix(1, 1);
        y.setKey(0, 2);
        due("the only one", y.liftAll(), 1);
        y.setKey(0, 2);
        y.reset(1, 1);
        due("none behind reset", y.liftAll(), 0);
    }

    // ---- Promise 10: sustain

    private void promise10() {
        book.promise(10);
        movesSustain();
        sustainTrueForDown();
        voicesFreedBySustain();
        sustainThereAlready();
        keptByEitherPedal();
        freedWhenAPedalGoesUp();
    }

    private void movesSustain() {
        book.says("Moves the sustain pedal.");
        KeyScanner x = Runs.row();
        Runs.put(x, 2, 0, 1);
        x.sustain(true);
        due("held ones stay so", Runs.states(x), "1 1 0 0");
        Runs.put(x, 0, 0);
        due("down, it keeps", Runs.states(x), "2 1 0 0");
        x.sustain(false);
        due("up, it frees the kept one", Runs.states(x), "0 1 0 0");
        Runs.put(x, 0, 1);
        due("up, it keeps none", Runs.states(x), "0 0 0 0");
    }

    private void sustainTrueForDown() {
        book.says("`down`: true for down");
        due("true", releasedUnder(true), 2);
        due("false", releasedUnder(false), 0);
    }

    private static int releasedUnder(boolean sustained) {
        KeyScanner x = Runs.row();
        x.sustain(sustained);
        Runs.put(x, 2, 0);
        Runs.put(x, 0, 0);
        return x.voice(0, 0);
    }

    private void voicesFreedBySustain() {
        book.says("Returns the number of voices that get free by this.");
        KeyScanner x = Runs.row(8, 0);
        due("down, no voice", x.sustain(true), 0);
        due("up, no voice", x.sustain(false), 0);
        Runs.put(x, 2, 0, 1, 2, 3, 4, 5, 6, 7);
        due("down, all held", x.sustain(true), 0);
        due("up, none kept", x.sustain(false), 0);
        x.sustain(true);
        Runs.put(x, 0, 7);
        due("up, the last voice kept", x.sustain(false), 1);
        x.sustain(true);
        Runs.put(x, 0, 0, 2, 4);
        due("up, three kept", x.sustain(false), 3);
        Runs.put(x, 2, 0, 2, 4, 7);
        x.sustain(true);
        x.liftAll();
        x.tick(1);
        due("all kept", x.count(7), 8);
        due("up, all kept", x.sustain(false), 8);
        due("all free", x.count(6), 0);
    }

    private void sustainThereAlready() {
        book.described("(Nothing happens if a pedal is there already.)");
        KeyScanner x = Runs.row();
        due("up already", x.sustain(false), 0);
        x.sustain(true);
        Runs.put(x, 2, 0);
        Runs.put(x, 0, 0);
        due("down already", x.sustain(true), 0);
        due("the kept one stays", x.voice(0, 0), 2);
        due("no entry", x.count(8), 1);
        due("up", x.sustain(false), 1);
        due("up already again", x.sustain(false), 0);
        due("one entry only", x.count(8), 2);
        x.sustain(true);
        x.reset(1, 8);
        due("up already behind reset", x.sustain(false), 0);
        KeyScanner y = Runs.row();
        Runs.put(y, 2, 0);
        y.sostenuto(true);
        Runs.put(y, 0, 0);
        due("up already, the other pedal keeps", y.sustain(false), 0);
        due("still kept", y.voice(0, 0), 2);
        Twins.leaves(book, "sustain(true), down already", z -> z.sustain(true));
    }

    private void keptByEitherPedal() {
        book.described("If there is a held voice with the key (otherwise nothing happens), it"
            + " becomes kept if the sustain pedal is down, or if the sostenuto pedal is down and"
            + " the voice was captured; otherwise it is free.");
        due("no pedal", released(false, false, false), "0 -3 -3 -3 0");
        due("sustain", released(true, false, false), "2 3 127 0 0");
        due("sostenuto, not captured", released(false, true, false), "0 -3 -3 -3 0");
        due("sostenuto, captured", released(false, true, true), "2 3 127 0 1");
        due("both, not captured", released(true, true, false), "2 3 127 0 0");
        due("both, captured", released(true, true, true), "2 3 127 0 1");
        KeyScanner x = Runs.row(1, 0);
        Runs.put(x, 2, 0);
        Runs.put(x, 2, 1);
        int entries = x.count(8);
        Runs.put(x, 0, 0);
        due("the voice was taken away: nothing happens", x.count(8), entries);
        due("voice 0 sounds on", Runs.voice(x, 0), "1 1 127 1 0");
        x.sustain(true);
        x.setKey(1, 1);
        x.tick(1);
        due("kept halfway", x.voice(0, 0), 2);
        Runs.put(x, 0, 1);
        due("already kept: nothing happens", Runs.voice(x, 0), "2 1 127 1 0");
        due("no entry for being kept", x.count(8), entries);
    }

    /** The voice of key 3, released with these pedals down. */
    private static String released(boolean sustain, boolean sostenuto, boolean captured) {
        KeyScanner x = Runs.row();
        x.sostenuto(sostenuto && !captured);
        Runs.put(x, 2, 3);
        x.sostenuto(sostenuto);
        x.sustain(sustain);
        Runs.put(x, 0, 3);
        return Runs.voice(x, 0);
    }

    private void freedWhenAPedalGoesUp() {
        book.described("When one of both pedals goes up, each kept voice, in ascending order, is"
            + " free then, unless the other pedal keeps it: the sustain pedal keeps all, the"
            + " sostenuto pedal the captured ones.");
        KeyScanner x = twoCapturedOfFive();
        due("sustain up, sostenuto keeps the captured ones", x.sustain(false), 2);
        due("states", Runs.states(x), "2 0 2 0 1");
        due("entries in the voices' order", Runs.log(x, 2), "7:2:2 7:2:1");
        due("then sostenuto up", x.sostenuto(false), 2);
        due("entries of those", Runs.log(x, 2), "7:2:7 7:2:5");
        due("the held one stays", Runs.states(x), "0 0 0 0 1");
        x = twoCapturedOfFive();
        due("sostenuto up, sustain keeps all", x.sostenuto(false), 0);
        due("states then", Runs.states(x), "2 2 2 2 1");
        due("no entries", x.count(8), 5);
        due("then sustain up", x.sustain(false), 4);
        due("all in order", Runs.log(x, 4), "7:2:7 7:2:2 7:2:5 7:2:1");
    }

    /** Voices 0 and 2 captured and kept, 1 and 3 kept, 4 held; keys 7, 2, 5, 1 and 0. */
    private static KeyScanner twoCapturedOfFive() {
        KeyScanner x = Runs.row(5, 0);
        Runs.put(x, 2, 7);
        Runs.put(x, 2, 2);
        Runs.put(x, 2, 5);
        Runs.put(x, 2, 1);
        x.sustain(true);
        Runs.put(x, 0, 2, 1);
        x.sostenuto(true);
        Runs.put(x, 0, 7, 5);
        Runs.put(x, 2, 0);
        return x;
    }

    // ---- Promise 11: sostenuto

    private void promise11() {
        book.promise(11);
        movesSostenuto();
        sostenutoTrueForDown();
        voicesCapturedOrFreed();
        capturedWhenItGoesDown();
        anewIsNotCaptured();
        sostenutoThereAlready();
    }

    private void movesSostenuto() {
        book.says("Moves the sostenuto pedal.");
        KeyScanner x = Runs.row();
        Runs.put(x, 2, 0);
        x.sostenuto(true);
        Runs.put(x, 2, 1);
        Runs.put(x, 0, 0, 1);
        due("down, it keeps what it captured", Runs.states(x), "2 0 0 0");
        x.sostenuto(false);
        due("up, it frees it", Runs.states(x), "0 0 0 0");
        due("its entry", Runs.log(x, 1), "3:2:0");
    }

    private void sostenutoTrueForDown() {
        book.says("`down`: true for down");
        KeyScanner x = Runs.row();
        Runs.put(x, 2, 0);
        due("false", x.sostenuto(false), 0);
        due("not captured", x.voice(0, 4), 0);
        due("true", x.sostenuto(true), 1);
        due("captured", x.voice(0, 4), 1);
    }

    private void voicesCapturedOrFreed() {
        book.says("Returns the number of voices that are captured by this, or that get free by"
            + " this.");
        KeyScanner x = Runs.row(8, 0);
        due("down, no voice", x.sostenuto(true), 0);
        due("up, no voice", x.sostenuto(false), 0);
        Runs.put(x, 2, 0, 1, 2, 3, 4, 5, 6, 7);
        due("down, all held", x.sostenuto(true), 8);
        due("up, none kept", x.sostenuto(false), 0);
        due("down again", x.sostenuto(true), 8);
        Runs.put(x, 0, 7);
        due("up, the last one kept", x.sostenuto(false), 1);
        due("down, seven held", x.sostenuto(true), 7);
        x.liftAll();
        x.tick(1);
        due("up, seven kept", x.sostenuto(false), 7);
        due("all free", x.count(6), 0);
        KeyScanner y = Runs.row();
        y.sustain(true);
        Runs.put(y, 2, 0, 1, 2);
        Runs.put(y, 0, 0, 2);
        due("down, two kept and one held", y.sostenuto(true), 1);
        due("up, sustain keeps all", y.sostenuto(false), 0);
    }

    private void capturedWhenItGoesDown() {
        book.described("When the sostenuto pedal goes down, all held voices are captured; when it"
            + " goes up, none is captured any more.");
        KeyScanner x = Runs.row();
        x.sustain(true);
        Runs.put(x, 2, 0, 1, 2);
        Runs.put(x, 0, 1);
        x.sostenuto(true);
        due("held ones, not the kept and the free one", Runs.voices(x, 4), "1 0 1 0");
        Runs.put(x, 2, 3);
        due("nor one that begins later", Runs.voices(x, 4), "1 0 1 0");
        Runs.put(x, 0, 0);
        due("captured still, where it is kept", Runs.voice(x, 0), "2 0 127 0 1");
        x.sostenuto(false);
        due("none any more", Runs.voices(x, 4), "0 0 0 0");
        due("they sound on", Runs.states(x), "2 2 1 1");
        x.sostenuto(true);
        due("now the held ones of now", Runs.voices(x, 4), "0 0 1 1");
    }

    private void anewIsNotCaptured() {
        book.described("A voice that begins or sounds anew is not captured.");
        KeyScanner x = Runs.row(2, 0);
        Runs.put(x, 2, 0, 1);
        x.sostenuto(true);
        Runs.put(x, 0, 0);
        due("kept and captured", Runs.voice(x, 0), "2 0 127 0 1");
        Runs.put(x, 2, 0);
        due("anew in its voice", Runs.voice(x, 0), "1 0 127 2 0");
        Runs.put(x, 0, 0);
        due("so it is free at once", x.voice(0, 0), 0);
        Runs.put(x, 2, 2);
        Runs.put(x, 2, 3);
        due("a captured voice taken away", Runs.voice(x, 1), "1 3 127 5 0");
        due("a voice that was free", Runs.voice(x, 0), "1 2 127 4 0");
        KeyScanner y = Runs.row();
        y.setLateRelease(true);
        Runs.put(y, 2, 0);
        y.sostenuto(true);
        Runs.put(y, 1, 0);
        due("held halfway", Runs.voice(y, 0), "1 0 127 0 1");
        Runs.put(y, 2, 0);
        due("anew from held", Runs.voice(y, 0), "1 0 120 2 0");
    }

    private void sostenutoThereAlready() {
        book.described("(Nothing happens if a pedal is there already.)");
        KeyScanner x = Runs.row();
        due("up already", x.sostenuto(false), 0);
        Runs.put(x, 2, 0);
        due("down", x.sostenuto(true), 1);
        Runs.put(x, 2, 1);
        due("down already", x.sostenuto(true), 0);
        due("no later one is captured", Runs.voices(x, 4), "1 0 0 0");
        Runs.put(x, 0, 0);
        due("down already, with a kept one", x.sostenuto(true), 0);
        due("still captured and kept", Runs.voice(x, 0), "2 0 127 0 1");
        due("up", x.sostenuto(false), 1);
        due("up already again", x.sostenuto(false), 0);
        x.sostenuto(true);
        x.reset(1, 8);
        Runs.put(x, 2, 4);
        due("up already behind reset", x.sostenuto(false), 0);
        due("so it goes down", x.sostenuto(true), 1);
        KeyScanner y = Runs.row();
        y.sustain(true);
        Runs.put(y, 2, 0);
        Runs.put(y, 0, 0);
        due("up already, the other pedal keeps", y.sostenuto(false), 0);
        due("it stays", y.voice(0, 0), 2);
        Twins.leaves(book, "sostenuto(true), down already", z -> z.sostenuto(true));
    }
}
