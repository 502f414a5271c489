/** Promises 14 to 18 and 21, sentence by sentence: voices, counts, the log and outlooks. */
final class AnswersSentences {
    private static final int BAD = KeyScanner.BAD_VALUE;
    private static final int NONE = KeyScanner.NONE;
    private static final int UNKNOWN = KeyScanner.UNKNOWN;
    private static final int LEAST = Integer.MIN_VALUE;
    private static final int GREATEST = Integer.MAX_VALUE;

    private final Book book;

    private AnswersSentences(Book book) {
        this.book = book;
    }

    static void run(Book book) {
        AnswersSentences tests = new AnswersSentences(book);
        tests.promise14();
        tests.promise15();
        tests.promise16();
        tests.promise17();
        tests.promise18();
        tests.promise21();
    }

    private void due(String call, long got, long want) {
        book.due(call, got, want);
    }

    private void due(String call, String got, String want) {
        book.due(call, got, want);
    }

    // ---- Promise 14: voice

    private void promise14() {
        book.promise(14);
        eachVoice();
        freeHeldKept();
        keyOfAVoice();
        velocityOfAVoice();
        timeOfAVoice();
        capturedVoice();
        propertyOfAVoice();
    }

    private void eachVoice() {
        book.says("`voice`: a voice");
        for (int voices = 1; voices <= 8; voices++) {
            KeyScanner x = Runs.row(voices, 0);
            due("voice 0 of " + voices, x.voice(0, 0), 0);
            due("the last of " + voices, x.voice(voices - 1, 0), 0);
            for (int what = 0; what <= 4; what++) {
                due("the voice behind it, " + what, x.voice(voices, what), UNKNOWN);
                due("the voice ahead of 0, " + what, x.voice(-1, what), UNKNOWN);
            }
        }
        for (int voice : new int[] {3, -1, 8, LEAST, GREATEST}) {
            Twins.refuses(book, "voice(" + voice + ", 0)", UNKNOWN, x -> x.voice(voice, 0));
        }
    }

    private void freeHeldKept() {
        book.says("`what`: 0 for 0 free, 1 held, 2 kept;");
        KeyScanner x = Runs.row();
        due("free at first", x.voice(0, 0), 0);
        Runs.put(x, 2, 4);
        due("held", x.voice(0, 0), 1);
        x.sustain(true);
        due("still held", x.voice(0, 0), 1);
        Runs.put(x, 0, 4);
        due("kept", x.voice(0, 0), 2);
        x.sustain(false);
        due("free", x.voice(0, 0), 0);
    }

    private void keyOfAVoice() {
        book.says("1 for its key,");
        KeyScanner x = Runs.matrix(8, 8);
        x.setVoices(2, 0);
        x.setDiodes(true);
        Runs.press(x, 2, 0, 63);
        x.tick(8);
        due("the first and the last key", Runs.voices(x, 1), "0 63");
        x.setKey(9, 2);
        x.tick(8);
        due("taken for another key", Runs.voices(x, 1), "9 63");
        KeyScanner y = Runs.row();
        y.sustain(true);
        Runs.put(y, 2, 5);
        Runs.put(y, 0, 5);
        due("kept", y.voice(0, 1), 5);
    }

    private void velocityOfAVoice() {
        book.says("2 for its velocity,");
        KeyScanner x = Runs.row(3, 0);
        Runs.strike(x, 0, 0);
        Runs.strike(x, 1, 16);
        Runs.strike(x, 2, 7);
        due("the greatest, the least and another", Runs.voices(x, 2), "127 1 72");
        x.setSlope(1);
        due("a later slope is nothing to them", Runs.voices(x, 2), "127 1 72");
    }

    private void timeOfAVoice() {
        book.says("3 for the time at which it began,");
        KeyScanner x = Runs.matrix(4, 1);
        x.setKey(0, 2);
        x.setKey(3, 2);
        x.tick(4);
        due("at the scans of the rows", Runs.voices(x, 3), "0 3 -3 -3");
        x.setKey(3, 1);
        x.setLateRelease(true);
        x.tick(4);
        x.setKey(3, 2);
        x.tick(4);
        due("began again in the lowest free voice", Runs.numbers(x.key(3, 3), x.voice(1, 3)),
            "1 11");
    }

    private void capturedVoice() {
        book.says("4 for whether it is captured (1, otherwise 0)");
        KeyScanner x = Runs.row();
        Runs.put(x, 2, 0, 1);
        due("held", x.voice(0, 4), 0);
        x.sostenuto(true);
        due("held and captured", x.voice(0, 4), 1);
        due("free", x.voice(2, 4), 0);
        Runs.put(x, 0, 0);
        due("kept and captured", x.voice(0, 4), 1);
        x.sostenuto(false);
        due("free then", x.voice(0, 4), 0);
        due("held then", x.voice(1, 4), 0);
    }

    private void propertyOfAVoice() {
        book.says("Returns the property; UNKNOWN; BAD_VALUE; NONE for 1 to 3 if it is free.");
        KeyScanner x = new KeyScanner();
        for (int voice = 0; voice < 4; voice++) {
            due("voice " + voice + ", free", Runs.voice(x, voice), "0 -3 -3 -3 0");
        }
        for (int what : new int[] {-1, 5, LEAST, GREATEST}) {
            due("a free voice, " + what, x.voice(3, what), BAD);
            Twins.refuses(book, "voice(2, " + what + ")", BAD, y -> y.voice(2, what));
            Twins.refuses(book, "voice(3, " + what + ")", UNKNOWN, y -> y.voice(3, what));
            Twins.refuses(book, "voice(-1, " + what + ")", UNKNOWN, y -> y.voice(-1, what));
        }
        KeyScanner y = Runs.row(1, 0);
        Runs.put(y, 2, 0);
        due("sounding", Runs.voice(y, 0), "1 0 127 0 0");
        Runs.put(y, 0, 0);
        due("free again", Runs.voice(y, 0), "0 -3 -3 -3 0");
        y.reset(1, 8);
        due("free behind reset", Runs.voice(y, 0), "0 -3 -3 -3 0");
        y.setVoices(3, 0);
        due("free where there are more", Runs.voice(y, 2), "0 -3 -3 -3 0");
        y.setVoices(2, 0);
        due("no voice where there are less", y.voice(2, 1), UNKNOWN);
        for (int what = 0; what <= 4; what++) {
            int asked = what;
            Twins.leaves(book, "voice(1, " + what + ")", z -> z.voice(1, asked));
        }
    }

    // ---- Promise 15: count

    private void promise15() {
        book.promise(15);
        countOfTime();
        countsOfKeys();
        countsOfVoices();
        countOfEntries();
        countOfStrikes();
        countOfRefused();
        countOfTaken();
        countRefuses();
    }

    private void countOfTime() {
        book.says("`what`: 0 for the time,");
        KeyScanner x = new KeyScanner();
        due("at first", x.count(0), 0);
        x.tick(1);
        due("after a tick", x.count(0), 1);
        x.tick(1000);
        due("after the most", x.count(0), 1001);
        x.reset(4, 4);
        due("after reset", x.count(0), 0);
    }

    private void countsOfKeys() {
        book.says("1 for the number of keys, 2 for keys that are not up, 3 for ghosts, 4 for"
            + " doubtful keys,");
        KeyScanner x = Runs.matrix(1, 1);
        due("one key", keyCounts(x), "1 0 0 0");
        x.setKey(0, 1);
        due("it is pressed", keyCounts(x), "1 1 0 0");
        KeyScanner y = Runs.matrix(8, 8);
        due("an empty matrix", keyCounts(y), "64 0 0 0");
        Runs.press(y, 2, 0, 1, 2, 3, 4, 5, 6, 7);
        due("a row", keyCounts(y), "64 8 0 0");
        Runs.press(y, 1, 8, 16, 24, 32, 40, 48, 56);
        due("and a column", keyCounts(y), "64 15 49 64");
        y.setDiodes(true);
        due("with diodes", keyCounts(y), "64 15 0 0");
        for (int key = 0; key < 64; key++) {
            y.setKey(key, 1);
        }
        due("a full matrix with diodes", keyCounts(y), "64 64 0 64");
        y.liftAll();
        due("empty again", keyCounts(y), "64 0 0 0");
    }

    private static String keyCounts(KeyScanner x) {
        return Runs.numbers(x.count(1), x.count(2), x.count(3), x.count(4));
    }

    private void countsOfVoices() {
        book.says("5 for voices, 6 for voices that sound, 7 for kept ones,");
        for (int voices = 1; voices <= 8; voices++) {
            KeyScanner x = Runs.row(voices, 0);
            x.sustain(true);
            due("all free", voiceCounts(x), voices + " 0 0");
            for (int key = 0; key < voices; key++) {
                Runs.put(x, 2, key);
                due("held ones", voiceCounts(x), voices + " " + (key + 1) + " 0");
            }
            for (int key = 0; key < voices; key++) {
                Runs.put(x, 0, key);
                due("kept ones", voiceCounts(x), voices + " " + voices + " " + (key + 1));
            }
            x.setVoices(1, 0);
            due("one is left", voiceCounts(x), "1 1 1");
            x.sustain(false);
            due("none sounds", voiceCounts(x), "1 0 0");
            x.setVoices(8, 0);
            due("all free again", voiceCounts(x), "8 0 0");
        }
    }

    private static String voiceCounts(KeyScanner x) {
        return Runs.numbers(x.count(5), x.count(6), x.count(7));
    }

    private void countOfEntries() {
        book.says("8 for the number of all entries made in the log,");
        KeyScanner x = Runs.row();
        for (int i = 0; i < 40; i++) {
            due("entries", x.count(8), i);
            Runs.put(x, i % 2 == 0 ? 2 : 0, 7);
        }
        due("far more than the log keeps", x.count(8), 40);
        x.reset(1, 8);
        due("after reset", x.count(8), 0);
    }

    private void countOfStrikes() {
        book.says("9 for the number of strikes that were not refused,");
        KeyScanner x = Runs.matrix(2, 2);
        x.setVoices(1, 0);
        Runs.press(x, 2, 0, 1);
        x.tick(2);
        due("one of them took a voice away", x.count(9), 2);
        x.setKey(0, 1);
        x.tick(2);
        x.setKey(0, 2);
        x.tick(2);
        due("struck again from halfway", x.count(9), 3);
        x.setBlocking(true);
        Runs.press(x, 2, 2, 3);
        x.tick(2);
        due("refused ones don't count", x.count(9), 3);
        x.tick(10);
        due("nor keys that stay down", x.count(9), 3);
        x.reset(2, 2);
        due("after reset", x.count(9), 0);
    }

    private void countOfRefused() {
        book.says("10 for the number of refused ones,");
        KeyScanner x = Runs.matrix(2, 2);
        Runs.press(x, 2, 0, 1, 2, 3);
        x.tick(2);
        due("the rule is off", x.count(10), 0);
        x.setBlocking(true);
        x.setKey(3, 1);
        x.tick(2);
        due("a ghost's second contact stays", x.key(3, 1), 2);
        Runs.press(x, 0, 3, 0);
        x.tick(2);
        Runs.press(x, 2, 3, 0);
        x.tick(2);
        due("two are refused", x.count(10), 2);
        x.reset(2, 2);
        due("after reset", x.count(10), 0);
    }

    private void countOfTaken() {
        book.says("11 for the number of voices taken away");
        KeyScanner x = Runs.row(1, 0);
        for (int i = 0; i < 8; i++) {
            Runs.put(x, 2, i);
            due("by one more key", x.count(11), i);
        }
        x.setVoices(8, 0);
        Runs.put(x, 1, 0);
        Runs.put(x, 2, 0);
        due("where one is free, none is taken", x.count(11), 7);
        x.setVoices(1, 0);
        due("those that get free are not taken", x.count(11), 7);
        x.reset(1, 8);
        due("after reset", x.count(11), 0);
    }

    private void countRefuses() {
        book.says("Returns the number; BAD_VALUE.");
        for (int what : new int[] {-1, 12, LEAST, GREATEST}) {
            due("a new object, " + what, new KeyScanner().count(what), BAD);
            Twins.refuses(book, "count(" + what + ")", BAD, x -> x.count(what));
        }
        due("the first one taken", new KeyScanner().count(0), 0);
        due("the last one taken", new KeyScanner().count(11), 0);
        for (int what = 0; what <= 11; what++) {
            int asked = what;
            Twins.leaves(book, "count(" + what + ")", x -> x.count(asked));
        }
    }

    // ---- Promise 16: log

    private void promise16() {
        book.promise(16);
        zeroForTheLatest();
        timeKindKey();
        latestSixteen();
        timesOfEntries();
        kindOne();
        kindTwo();
        kindThree();
        kindFour();
        logRefuses();
    }

    private void zeroForTheLatest() {
        book.says("`entry`: 0 for the latest one");
        KeyScanner x = Runs.row();
        Runs.put(x, 2, 3);
        due("one", Runs.log(x, 1), "0:1:3");
        Runs.put(x, 0, 3);
        due("two", Runs.log(x, 2), "0:1:3 1:2:3");
        due("entry 0", x.log(0, 1), 2);
        due("entry 1", x.log(1, 1), 1);
    }

    private void timeKindKey() {
        book.says("`what`: 0 for its time, 1 for its kind, 2 for its key");
        KeyScanner x = Runs.matrix(8, 8);
        x.setKey(63, 2);
        x.tick(8);
        due("time", x.log(0, 0), 7);
        due("kind", x.log(0, 1), 1);
        due("key", x.log(0, 2), 63);
    }

    private void latestSixteen() {
        book.described("The log keeps the latest 16 entries;");
        KeyScanner x = Runs.row();
        due("none", x.log(0, 0), NONE);
        for (int i = 0; i < 35; i++) {
            Runs.put(x, i % 2 == 0 ? 2 : 0, i / 2 % 8);
            int kept = Math.min(16, i + 1);
            due("the latest of " + (i + 1), x.log(0, 0), i);
            due("the oldest kept of " + (i + 1), x.log(kept - 1, 0), i + 1 - kept);
            due("the one behind it of " + (i + 1), x.log(kept, 0), NONE);
        }
        for (int entry = 0; entry < 16; entry++) {
            int i = 34 - entry;
            due("entry " + entry, Runs.numbers(x.log(entry, 0), x.log(entry, 1),
                x.log(entry, 2)), Runs.numbers(i, 1 + i % 2, i / 2 % 8));
        }
        due("entry 15 is the last", x.log(15, 2), 1);
        for (int what = 0; what <= 2; what++) {
            due("entry 16 is none, " + what, x.log(16, what), NONE);
        }
        x.reset(1, 8);
        due("none after reset", x.log(0, 0), NONE);
        Runs.put(x, 2, 2);
        due("one after reset", Runs.log(x, 1), "0:1:2");
        due("no old one behind it", x.log(1, 0), NONE);
    }

    private void timesOfEntries() {
        book.described("an entry has a time (that of a scan, or the present one), a kind and a"
            + " key:");
        KeyScanner x = Runs.row(2, 0);
        Runs.put(x, 2, 0, 1);
        x.sustain(true);
        Runs.put(x, 0, 0);
        x.tick(5);
        x.sustain(false);
        due("a pedal's: the present time", Runs.log(x, 1), "7:2:0");
        x.setVoices(1, 0);
        x.setVoices(2, 0);
        due("of the number of voices: the present time", Runs.log(x, 1), "7:2:1");
        Runs.put(x, 2, 4);
        due("a scan's: the time before the tick", Runs.log(x, 1), "7:1:4");
        Runs.put(x, 0, 4);
        due("a release's, too", Runs.log(x, 1), "8:2:4");
    }

    private void kindOne() {
        book.described("the kind 1 when a voice begins or sounds anew,");
        KeyScanner x = Runs.row();
        x.sustain(true);
        Runs.put(x, 2, 5);
        due("it begins", Runs.log(x, 1), "0:1:5");
        Runs.put(x, 1, 5);
        due("no entry for being kept", x.count(8), 1);
        Runs.put(x, 2, 5);
        due("it sounds anew", Runs.log(x, 2), "0:1:5 2:1:5");
        due("no other entry", x.count(8), 2);
    }

    private void kindTwo() {
        book.described("2 when a voice gets free (but not when it is taken away),");
        KeyScanner x = Runs.row(2, 0);
        Runs.put(x, 2, 0, 1, 2);
        due("taken away", Runs.log(x, 4), "0:1:0 0:1:1 0:3:0 0:1:2");
        due("no entry 2", x.count(8), 4);
        Runs.put(x, 0, 2);
        due("released", Runs.log(x, 1), "1:2:2");
        x.sostenuto(true);
        Runs.put(x, 0, 1);
        due("kept: no entry", x.count(8), 5);
        x.sostenuto(false);
        due("by a pedal", Runs.log(x, 1), "3:2:1");
        x.liftAll();
        due("not by lifting alone", x.count(8), 6);
        x.reset(1, 8);
        due("not by reset", x.count(8), 0);
    }

    private void kindThree() {
        book.described("3 when a voice is taken away from a key (ahead of the entry 1 of the other"
            + " key),");
        KeyScanner x = Runs.row(1, 0);
        Runs.put(x, 2, 6);
        x.sustain(true);
        Runs.put(x, 0, 6);
        Runs.put(x, 2, 2);
        due("from a kept one", Runs.log(x, 3), "0:1:6 2:3:6 2:1:2");
        Runs.put(x, 2, 1);
        due("from a held one", Runs.log(x, 2), "3:3:2 3:1:1");
        due("entries", x.count(8), 5);
    }

    private void kindFour() {
        book.described("4 when a key is refused.");
        KeyScanner x = Runs.matrix(2, 2);
        x.setBlocking(true);
        Runs.press(x, 1, 0, 1, 2, 3);
        x.tick(2);
        due("not before the strike", x.count(8), 0);
        x.setKey(2, 2);
        x.tick(2);
        due("at the strike", Runs.log(x, 1), "3:4:2");
        x.tick(4);
        due("once", x.count(8), 1);
        x.setKey(2, 0);
        x.tick(2);
        due("no entry at its release", x.count(8), 1);
    }

    private void logRefuses() {
        book.says("Returns the number; BAD_VALUE if entry is negative or what is out of range; NONE"
            + " if there is no such entry in the log.");
        for (int what : new int[] {-1, 3, LEAST, GREATEST}) {
            due("an empty log, " + what, new KeyScanner().log(0, what), BAD);
            Twins.refuses(book, "log(0, " + what + ")", BAD, x -> x.log(0, what));
            Twins.refuses(book, "log(15, " + what + ")", BAD, x -> x.log(15, what));
            Twins.refuses(book, "log(16, " + what + ")", BAD, x -> x.log(16, what));
        }
        for (int what = 0; what <= 2; what++) {
            int asked = what;
            due("an empty log, " + what, new KeyScanner().log(0, what), NONE);
            for (int entry : new int[] {-1, LEAST}) {
                due("an empty log, entry " + entry, new KeyScanner().log(entry, what), BAD);
                Twins.refuses(book, "log(" + entry + ", " + what + ")", BAD,
                    x -> x.log(entry, asked));
            }
            for (int entry : new int[] {16, 17, 21, GREATEST}) {
                Twins.refuses(book, "log(" + entry + ", " + what + ")", NONE,
                    x -> x.log(entry, asked));
            }
            for (int entry : new int[] {0, 15}) {
                Twins.leaves(book, "log(" + entry + ", " + what + ")", x -> x.log(entry, asked));
            }
        }
    }

    // ---- Promise 17: velocity

    private void promise17() {
        book.promise(17);
        roundsToThousand();
        velocityOfAStrike();
    }

    private void roundsToThousand() {
        book.says("`rounds`: 0 to 1000");
        due("velocity(0)", new KeyScanner().velocity(0), 127);
        due("velocity(1000)", new KeyScanner().velocity(1000), 1);
        for (int rounds : new int[] {-1, 1001, LEAST, GREATEST}) {
            Twins.refuses(book, "velocity(" + rounds + ")", BAD, x -> x.velocity(rounds));
        }
    }

    private void velocityOfAStrike() {
        book.says("Returns the velocity of a strike so many rounds after the beginning;"
            + " BAD_VALUE.");
        for (int slope : new int[] {1, 2, 7, 8, 63, 64}) {
            KeyScanner x = Runs.row();
            x.setSlope(slope);
            int least = 0;
            for (int rounds = 0; rounds <= 130; rounds++) {
                int due = 128 - slope * rounds;
                due = due > 127 ? 127 : due < 1 ? 1 : due;
                due("slope " + slope + ", " + rounds + " rounds", x.velocity(rounds), due);
                if (due == 1 && least == 0) {
                    least = rounds;
                }
            }
            for (int rounds : new int[] {0, 1, 2, least - 1, least, least + 1}) {
                due("as a strike, slope " + slope + ", " + rounds + " rounds", x.velocity(rounds),
                    struckAfter(slope, rounds));
            }
            due("the most rounds, slope " + slope, x.velocity(1000), 1);
        }
        KeyScanner y = Runs.matrix(8, 8);
        due("the number of rows is nothing to it", y.velocity(3), 104);
        due("velocity(1001)", y.velocity(1001), BAD);
        y.setSlope(3);
        y.reset(2, 2);
        due("the slope stays behind reset", y.velocity(3), 119);
        Twins.leaves(book, "velocity(3)", x -> x.velocity(3));
    }

    private static int struckAfter(int slope, int rounds) {
        KeyScanner x = Runs.row();
        x.setSlope(slope);
        Runs.strike(x, 0, rounds);
        return x.voice(0, 2);
    }

    // ---- Promise 18: nextTaken

    private void promise18() {
        book.promise(18);
        whichVoiceWouldBeTaken();
        noneWhereOneIsFree();
    }

    private void whichVoiceWouldBeTaken() {
        book.says("Tells which voice would be taken away now, if a key without a voice were"
            + " struck.");
        for (int rule = 0; rule <= 2; rule++) {
            KeyScanner x = Runs.row(3, rule);
            Runs.strike(x, 0, 0);
            Runs.strike(x, 1, 3);
            Runs.strike(x, 2, 0);
            x.sustain(true);
            Runs.put(x, 0, 2);
            due("by the rule " + rule, x.nextTaken(), rule);
            due("asked again", x.nextTaken(), rule);
            Runs.put(x, 2, 7);
            due("so it is", x.key(7, 3), rule);
        }
        KeyScanner one = Runs.row(1, 0);
        Runs.put(one, 2, 5);
        for (int rule = 0; rule <= 2; rule++) {
            one.setVoices(1, rule);
            due("the only one by the rule " + rule, one.nextTaken(), 0);
        }
        KeyScanner all = Runs.row(8, 1);
        Runs.put(all, 2, 0, 1, 2, 3, 4, 5, 6);
        Runs.strike(all, 7, 1);
        due("the last of eight", all.nextTaken(), 7);
        all.setVoices(8, 0);
        due("the first of eight", all.nextTaken(), 0);
        Twins.leaves(book, "nextTaken()", x -> x.nextTaken());
    }

    private void noneWhereOneIsFree() {
        book.says("Returns the voice; NONE if a voice is free.");
        for (int voices = 1; voices <= 8; voices++) {
            KeyScanner x = Runs.row(voices, 2);
            x.sustain(true);
            due("all free", x.nextTaken(), NONE);
            for (int key = 0; key < voices; key++) {
                due("voice " + key + " is free", x.nextTaken(), NONE);
                Runs.put(x, 2, key);
            }
            due("no voice free", x.nextTaken(), 0);
            Runs.put(x, 0, voices - 1);
            due("all held but a kept one", x.nextTaken(), voices - 1);
            x.sustain(false);
            due("that one is free", x.nextTaken(), NONE);
        }
        KeyScanner y = Runs.row(8, 0);
        Runs.put(y, 2, 0, 1);
        due("six are free", y.nextTaken(), NONE);
        y.setVoices(2, 0);
        due("none is free with two voices", y.nextTaken(), 0);
        y.setVoices(3, 0);
        due("one is free with three voices", y.nextTaken(), NONE);
        y.reset(1, 8);
        due("after reset", y.nextTaken(), NONE);
    }

    // ---- Promise 21: restAfter

    private void promise21() {
        book.promise(21);
        ticksUntilRest();
        forTheFirstTime();
        eachStateOfARound();
        nothingChanges();
        mostToThousand();
        numberOfTicks();
    }

    private void ticksUntilRest() {
        book.says("Tells after how many ticks all keys would be at rest (phase 0)");
        for (int rows = 1; rows <= 8; rows++) {
            for (int row = 0; row < rows; row++) {
                for (int passed = 0; passed < rows; passed++) {
                    KeyScanner x = Runs.matrix(rows, 2);
                    x.setKey(2 * row + 1, 2);
                    x.tick(rows + passed);
                    x.liftAll();
                    int ticks = Math.floorMod(row - passed, rows) + 1;
                    due("row " + row + " of " + rows + " at " + x.count(0), x.restAfter(1000),
                        ticks);
                    x.tick(ticks);
                    due("so it is", x.restAfter(1), 0);
                }
            }
        }
        KeyScanner y = Runs.matrix(3, 1);
        y.setKey(0, 1);
        y.setKey(2, 2);
        y.tick(3);
        y.setKey(2, 1);
        y.tick(3);
        due("phases", Runs.keys(y, 1), "1 0 3");
        y.liftAll();
        due("the last of several", y.restAfter(1000), 3);
    }

    private void forTheFirstTime() {
        book.says("for the first time if nothing were moved.");
        KeyScanner x = Runs.matrix(4, 1);
        x.setKey(0, 2);
        x.tick(4);
        x.setKey(0, 0);
        x.setKey(3, 2);
        due("at rest until row 3 is scanned", x.restAfter(1000), 1);
        x.tick(1);
        due("now, though not for long", x.restAfter(1000), 0);
        x.tick(3);
        due("no more", x.restAfter(1000), NONE);
        KeyScanner y = Runs.matrix(4, 1);
        y.setKey(3, 2);
        y.tick(4);
        y.setKey(3, 0);
        y.setKey(0, 2);
        due("row 0 begins ahead of it", y.restAfter(1000), NONE);
        KeyScanner z = Runs.matrix(2, 2);
        Runs.press(z, 2, 0, 1, 2);
        z.tick(2);
        Runs.press(z, 0, 0, 1);
        due("a key that stays", z.restAfter(1000), NONE);
        z.setKey(2, 0);
        due("the ghost goes with the last one", z.restAfter(1000), 2);
        z.setKey(2, 1);
        z.setKey(3, 1);
        z.setKey(1, 1);
        due("a ghost that never rests", z.restAfter(1000), NONE);
    }

    private void eachStateOfARound() {
        book.says("all keys would be at rest (phase 0) for the first time if nothing were moved.");
        long seed = 21;
        for (int run = 0; run < 300; run++) {
            KeyScanner x = Runs.matrix(1 + run % 8, 1 + run / 8 % 3);
            int keys = x.count(1);
            x.setDiodes(run % 5 == 0);
            for (int i = 0; i < 12; i++) {
                seed = seed * 6364136223846793005L + 1442695040888963407L;
                int dice = (int) (seed >>> 33);
                x.setKey(dice % keys, dice / keys % 3);
                if (i == 3 || i == 7 || i == 9) {
                    x.tick(1 + dice / 64 % 9);
                }
                // In some runs the last two moves are of keys that were all up.
                if (i == 3 || i == 9 && run % 7 != 0) {
                    x.liftAll();
                }
                if (i == 9 && run % 2 == 0) {
                    break;
                }
            }
            int told = x.restAfter(1000);
            due("run " + run, told, ticked(x));
        }
    }

    /** As the sentence says, tick by tick. */
    private static int ticked(KeyScanner x) {
        int keys = x.count(1);
        for (int ticks = 0; ticks <= 16; ticks++) {
            boolean rest = true;
            for (int key = 0; key < keys && rest; key++) {
                rest = x.key(key, 1) == 0;
            }
            if (rest) {
                return ticks;
            }
            x.tick(1);
        }
        return NONE;
    }

    private void nothingChanges() {
        book.says("Nothing changes.");
        for (int most : new int[] {1, 2, 8, 1000}) {
            Twins.leaves(book, "restAfter(" + most + ")", x -> x.restAfter(most));
            Twins.leaves(book, "liftAll(), restAfter(" + most + "), and back", x -> {
                int position = x.key(4, 0);
                x.setKey(4, 0);
                x.restAfter(most);
                return x.setKey(4, position);
            });
        }
        KeyScanner x = Runs.row();
        Runs.put(x, 2, 0);
        x.setKey(0, 0);
        due("restAfter(5)", x.restAfter(5), 1);
        due("time, phase and voice", Runs.numbers(x.count(0), x.key(0, 1), x.voice(0, 0)),
            "1 2 1");
        due("restAfter(5) again", x.restAfter(5), 1);
    }

    private void mostToThousand() {
        book.says("`most`: 1 to 1000");
        due("restAfter(1)", new KeyScanner().restAfter(1), 0);
        due("restAfter(1000)", new KeyScanner().restAfter(1000), 0);
        for (int most : new int[] {0, -1, 1001, LEAST, GREATEST}) {
            due("restAfter(" + most + ") at rest", new KeyScanner().restAfter(most), BAD);
            Twins.refuses(book, "restAfter(" + most + ")", BAD, x -> x.restAfter(most));
        }
    }

    private void numberOfTicks() {
        book.says("Returns the number of ticks, 0 if they are so now; BAD_VALUE; NONE if they are"
            + " not so behind any of these ticks.");
        KeyScanner x = Runs.matrix(8, 1);
        due("at rest now", x.restAfter(1), 0);
        x.setKey(0, 2);
        due("pressed, but not scanned", x.restAfter(1000), 0);
        x.tick(1);
        due("struck", x.restAfter(1000), NONE);
        x.setKey(0, 0);
        due("one tick too few", x.restAfter(7), NONE);
        due("just enough", x.restAfter(8), 8);
        due("one more", x.restAfter(9), 8);
        due("the least number", x.restAfter(1), NONE);
        due("the greatest number", x.restAfter(1000), 8);
        x.tick(7);
        due("one tick is left", x.restAfter(1), 1);
        x.tick(1);
        due("at rest", x.restAfter(1), 0);
        x.setKey(4, 1);
        x.tick(8);
        due("on the way", x.restAfter(1000), NONE);
        x.reset(8, 1);
        due("after reset", x.restAfter(1), 0);
        Twins.refuses(book, "restAfter(1000) with keys pressed", NONE, y -> y.restAfter(1000));
        Twins.refuses(book, "restAfter(1) with keys pressed", NONE, y -> y.restAfter(1));
    }
}
