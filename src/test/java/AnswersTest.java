/** Promises 13 to 21: what there is. */
public final class AnswersTest {
    private static final Due CHECK = new Due("AnswersTest");

    private AnswersTest() {
    }

    public static void main(String[] args) {
        key();
        keyAppearances();
        keyDoubts();
        keyRefuses();
        voice();
        voiceRefuses();
        voiceCapturedWhereFree();
        count();
        log();
        logKeepsSixteen();
        velocity();
        nextTaken();
        connected();
        connectedByALongWay();
        worstKey();
        worstKeyOfRings();
        restAfter();
        restAfterBetweenScans();
        askingChangesNothing();
        CHECK.end();
    }

    private static void due(String call, long got, long want) {
        CHECK.due(call, got, want);
    }

    private static void press(KeyScanner x, int position, int... keys) {
        for (int key : keys) {
            x.setKey(key, position);
        }
    }

    // Promise 13
    private static void key() {
        KeyScanner x = new KeyScanner();
        x.tick(1);
        x.setKey(7, 2);
        x.tick(4);
        int[] down = {2, 2, 1, 0, 1, 1, 0, 0};
        for (int what = 0; what < down.length; what++) {
            due("P13 key down, " + what, x.key(7, what), down[what]);
        }
        x.setKey(7, 1);
        x.tick(4);
        int[] halfway = {1, 3, 5, KeyScanner.NONE, 1, 0, 0, 0};
        for (int what = 0; what < halfway.length; what++) {
            due("P13 key halfway, " + what, x.key(7, what), halfway[what]);
        }
        x.setKey(7, 0);
        x.tick(4);
        int[] up = {0, 0, 0, KeyScanner.NONE, 0, 0, 0, 0};
        for (int what = 0; what < up.length; what++) {
            due("P13 key up, " + what, x.key(7, what), up[what]);
        }
    }

    private static void keyAppearances() {
        KeyScanner x = new KeyScanner();
        // Column 1 joins the rows 0 and 1; row 2 with its columns 2 and 3 is apart.
        press(x, 2, 0, 1);
        press(x, 1, 5, 10, 11);
        due("P13 first of 4", x.key(4, 4), 1);
        due("P13 second of 4", x.key(4, 5), 0);
        due("P13 4 is a ghost", x.key(4, 6), 1);
        due("P13 not joined", x.key(6, 4), 0);
        due("P13 one ghost", x.count(3), 1);
        x.setKey(6, 1);
        due("P13 joined by 6", x.key(3, 4), 1);
        due("P13 six ghosts: 2, 3, 4, 7, 8, 9", x.count(3), 6);
        press(x, 2, 5);
        due("P13 second net of its own", x.key(4, 5), 1);
        due("P13 no second there", x.key(6, 5), 0);
        x.setKey(4, 1);
        due("P13 a halfway ghost", x.key(4, 6), 1);
        x.setKey(4, 2);
        due("P13 a down key is none", x.key(4, 6), 0);
        due("P13 pressed ones are none", x.key(0, 6) + x.key(6, 6), 0);
    }

    private static void keyDoubts() {
        KeyScanner x = new KeyScanner();
        press(x, 1, 0, 3, 12);
        due("P13 by a ghost in the corner", x.key(0, 7), 1);
        due("P13 the ghost, too", x.key(15, 7), 1);
        due("P13 another not", x.key(5, 7), 0);
        x.setDiodes(true);
        due("P13 three corners with diodes", x.key(0, 7), 0);
        x.setKey(15, 2);
        due("P13 four corners with diodes", x.key(12, 7), 1);
        due("P13 four doubtful keys", x.count(4), 4);
        x.setKey(3, 0);
        x.setKey(13, 1);
        due("P13 a row and a column only", x.count(4), 0);
        x.setDiodes(false);
        x.liftAll();
        press(x, 1, 4, 5, 6, 7);
        due("P13 a row is not doubtful", x.count(4), 0);
        press(x, 1, 1);
        due("P13 two rows of four", x.count(4), 8);
        due("P13 not the others", x.key(9, 7), 0);
    }

    private static void keyRefuses() {
        KeyScanner x = new KeyScanner();
        x.reset(2, 3);
        due("P13 key 6 of 6", x.key(6, 0), KeyScanner.UNKNOWN);
        due("P13 key -1", x.key(-1, 0), KeyScanner.UNKNOWN);
        due("P13 key least", x.key(Integer.MIN_VALUE, 4), KeyScanner.UNKNOWN);
        due("P13 UNKNOWN ahead", x.key(6, 8), KeyScanner.UNKNOWN);
        due("P13 what 8", x.key(5, 8), KeyScanner.BAD_VALUE);
        due("P13 what -1", x.key(5, -1), KeyScanner.BAD_VALUE);
        due("P13 no voice", x.key(5, 3), KeyScanner.NONE);
    }

    // Promise 14
    private static void voice() {
        KeyScanner x = new KeyScanner();
        x.reset(1, 8);
        x.setKey(6, 1);
        x.tick(3);
        x.setKey(6, 2);
        x.tick(1);
        int[] held = {1, 6, 104, 3, 0};
        for (int what = 0; what < held.length; what++) {
            due("P14 held, " + what, x.voice(0, what), held[what]);
        }
        x.sostenuto(true);
        x.setKey(6, 0);
        x.tick(1);
        int[] kept = {2, 6, 104, 3, 1};
        for (int what = 0; what < kept.length; what++) {
            due("P14 kept, " + what, x.voice(0, what), kept[what]);
        }
        x.sostenuto(false);
        int[] free = {0, KeyScanner.NONE, KeyScanner.NONE, KeyScanner.NONE, 0};
        for (int what = 0; what < free.length; what++) {
            due("P14 free, " + what, x.voice(0, what), free[what]);
        }
    }

    private static void voiceRefuses() {
        KeyScanner x = new KeyScanner();
        due("P14 voice -1", x.voice(-1, 0), KeyScanner.UNKNOWN);
        due("P14 voice 4 of 4", x.voice(4, 0), KeyScanner.UNKNOWN);
        due("P14 UNKNOWN ahead", x.voice(4, 9), KeyScanner.UNKNOWN);
        due("P14 greatest voice", x.voice(Integer.MAX_VALUE, 0), KeyScanner.UNKNOWN);
        due("P14 what 5", x.voice(3, 5), KeyScanner.BAD_VALUE);
        due("P14 what -1", x.voice(3, -1), KeyScanner.BAD_VALUE);
        x.setVoices(8, 0);
        due("P14 voice 7 of 8", x.voice(7, 0), 0);
        due("P14 voice 8 of 8", x.voice(8, 0), KeyScanner.UNKNOWN);
    }

    /** The document is silent here; NOTES.md tells why a voice that got free is not captured. */
    private static void voiceCapturedWhereFree() {
        KeyScanner x = new KeyScanner();
        x.reset(1, 8);
        press(x, 2, 0, 1);
        x.tick(1);
        x.sostenuto(true);
        x.setVoices(1, 0);
        x.setVoices(2, 0);
        due("P14 free ones are not captured", x.voice(1, 4), 0);
    }

    // Promise 15
    private static void count() {
        KeyScanner x = new KeyScanner();
        x.reset(3, 3);
        x.setVoices(2, 0);
        press(x, 2, 0, 1);
        press(x, 1, 3);
        x.sustain(true);
        x.tick(4);
        x.setKey(0, 0);
        x.setKey(8, 2);
        x.setBlocking(true);
        x.tick(3);
        // Key 0 is kept, voice 0 of it goes to key 8; ghosts are gone.
        int[] due = {7, 9, 3, 0, 0, 2, 2, 0, 4, 3, 0, 1};
        for (int what = 0; what < due.length; what++) {
            due("P15 count " + what, x.count(what), due[what]);
        }
        x.setKey(1, 0);
        x.setKey(0, 2);
        x.setKey(5, 2);
        x.setKey(2, 2);
        x.tick(3);
        // All rows are joined by the columns 0 and 2 in both nets, so that all keys there are
        // doubtful: 3 and 6 are ghosts, and 3, 5, 6, 0 and 2 are refused in turn.
        int[] later = {10, 9, 5, 2, 6, 2, 2, 1, 9, 3, 5, 1};
        for (int what = 0; what < later.length; what++) {
            due("P15 later count " + what, x.count(what), later[what]);
        }
        due("P15 what 12", x.count(12), KeyScanner.BAD_VALUE);
        due("P15 what -1", x.count(-1), KeyScanner.BAD_VALUE);
        due("P15 what least", x.count(Integer.MIN_VALUE), KeyScanner.BAD_VALUE);
    }

    // Promise 16
    private static void log() {
        KeyScanner x = new KeyScanner();
        x.reset(1, 8);
        due("P16 none yet", x.log(0, 2), KeyScanner.NONE);
        due("P16 BAD_VALUE ahead of NONE", x.log(0, 3), KeyScanner.BAD_VALUE);
        due("P16 entry -1", x.log(-1, 0), KeyScanner.BAD_VALUE);
        due("P16 what -1", x.log(0, -1), KeyScanner.BAD_VALUE);
        x.tick(5);
        x.setKey(3, 2);
        x.tick(2);
        due("P16 its time", x.log(0, 0), 5);
        due("P16 its kind", x.log(0, 1), 1);
        due("P16 its key", x.log(0, 2), 3);
        due("P16 one only", x.log(1, 0), KeyScanner.NONE);
        due("P16 greatest entry", x.log(Integer.MAX_VALUE, 0), KeyScanner.NONE);
        due("P16 least entry", x.log(Integer.MIN_VALUE, 0), KeyScanner.BAD_VALUE);
        due("P16 what 3", x.log(0, 3), KeyScanner.BAD_VALUE);
        x.sustain(true);
        x.setKey(3, 0);
        x.tick(2);
        x.sustain(false);
        due("P16 the present time", x.log(0, 0), 9);
        due("P16 free", x.log(0, 1) * 10 + x.log(0, 2), 23);
    }

    private static void logKeepsSixteen() {
        KeyScanner x = new KeyScanner();
        x.reset(1, 1);
        for (int i = 0; i < 17; i++) {
            x.setKey(0, i % 2 == 0 ? 2 : 0);
            x.tick(1);
            due("P16 latest of " + i, x.log(0, 0), i);
            due("P16 last of " + i, x.log(15, 0), i < 15 ? KeyScanner.NONE : i - 15);
        }
        due("P16 seventeen were made", x.count(8), 17);
        due("P16 the first is gone", x.log(16, 0), KeyScanner.NONE);
        for (int entry = 0; entry < 16; entry++) {
            due("P16 time of " + entry, x.log(entry, 0), 16 - entry);
            due("P16 kind of " + entry, x.log(entry, 1), 1 + entry % 2);
        }
    }

    // Promise 17
    private static void velocity() {
        KeyScanner x = new KeyScanner();
        due("P17 0 rounds", x.velocity(0), 127);
        due("P17 1 round", x.velocity(1), 120);
        due("P17 15 rounds", x.velocity(15), 8);
        due("P17 16 rounds", x.velocity(16), 1);
        due("P17 1000 rounds", x.velocity(1000), 1);
        due("P17 1001 rounds", x.velocity(1001), KeyScanner.BAD_VALUE);
        due("P17 -1 rounds", x.velocity(-1), KeyScanner.BAD_VALUE);
        due("P17 least", x.velocity(Integer.MIN_VALUE), KeyScanner.BAD_VALUE);
        x.setSlope(1);
        due("P17 slope 1, 1 round", x.velocity(1), 127);
        due("P17 slope 1, 2 rounds", x.velocity(2), 126);
        due("P17 slope 1, 127 rounds", x.velocity(127), 1);
        due("P17 slope 1, 126 rounds", x.velocity(126), 2);
    }

    // Promise 18
    private static void nextTaken() {
        KeyScanner x = new KeyScanner();
        x.reset(1, 8);
        due("P18 all free", x.nextTaken(), KeyScanner.NONE);
        x.setVoices(3, 1);
        SettingsTest.strikeSlowly(x, 0, 4);
        SettingsTest.strikeSlowly(x, 1, 4);
        due("P18 one free", x.nextTaken(), KeyScanner.NONE);
        SettingsTest.strikeSlowly(x, 2, 0);
        due("P18 of two soft ones the first", x.nextTaken(), 0);
        due("P18 it changes nothing", x.nextTaken(), 0);
        x.setKey(3, 2);
        x.tick(1);
        due("P18 it was so", x.key(3, 3), 0);
        due("P18 now the other one", x.nextTaken(), 1);
        x.setVoices(1, 0);
        due("P18 the only one", x.nextTaken(), 0);
        x.setKey(3, 0);
        x.tick(1);
        due("P18 free again", x.nextTaken(), KeyScanner.NONE);
        KeyScanner y = new KeyScanner();
        y.reset(1, 8);
        y.setVoices(3, 1);
        press(y, 2, 0, 1, 2);
        y.tick(1);
        due("P18 of equal ones the lowest", y.nextTaken(), 0);
        y.setVoices(3, 2);
        y.sustain(true);
        press(y, 0, 1, 2);
        y.tick(1);
        due("P18 of equal kept ones the lowest", y.nextTaken(), 1);
        y.setVoices(3, 0);
        due("P18 rule 0 does not see them", y.nextTaken(), 0);
    }

    // Promise 19
    private static void connected() {
        KeyScanner x = new KeyScanner();
        x.reset(3, 5);
        for (int row = 0; row < 3; row++) {
            due("P19 alone, " + row, x.connected(row), 1 << row);
        }
        due("P19 row 3 of 3", x.connected(3), KeyScanner.BAD_VALUE);
        due("P19 row -1", x.connected(-1), KeyScanner.BAD_VALUE);
        due("P19 row greatest", x.connected(Integer.MAX_VALUE), KeyScanner.BAD_VALUE);
        x.setKey(4, 1);
        due("P19 a column", x.connected(0), 1 + 256 * 16);
        x.setKey(14, 2);
        due("P19 two rows", x.connected(2), 5 + 256 * 16);
        due("P19 not row 1", x.connected(1), 2);
        x.setDiodes(true);
        x.setKey(10, 1);
        due("P19 with diodes", x.connected(0), 5 + 256 * 17);
        x.setKey(4, 0);
        due("P19 gone", x.connected(0), 1);
    }

    private static void connectedByALongWay() {
        KeyScanner x = new KeyScanner();
        x.reset(8, 8);
        // A stair: each row shares a column with the next one, in no order.
        int[] stair = {7, 0, 5, 2, 6, 1, 4, 3};
        for (int row = 0; row < 8; row++) {
            x.setKey(row * 8 + stair[row], 1);
            x.setKey(row * 8 + stair[(row + 1) % 8], 1);
        }
        for (int row = 0; row < 8; row++) {
            due("P19 all, " + row, x.connected(row), 65535);
        }
        due("P19 all others are ghosts", x.count(3), 48);
        due("P19 all are doubtful", x.count(4), 64);
        x.setKey(7 * 8 + stair[0], 0);
        due("P19 a ring's break leaves all", x.connected(3), 65535);
        x.setKey(3 * 8 + stair[4], 0);
        due("P19 the upper half", x.connected(0), 15 + 256 * (128 + 1 + 32 + 4));
        due("P19 the lower half", x.connected(7), 240 + 256 * (64 + 2 + 16 + 8));
    }

    // Promise 20
    private static void worstKey() {
        KeyScanner x = new KeyScanner();
        due("P20 no ghosts", x.worstKey(), KeyScanner.NONE);
        press(x, 1, 0, 1, 4);
        due("P20 the lowest of three", x.worstKey(), 0);
        x.setDiodes(true);
        due("P20 none with diodes", x.worstKey(), KeyScanner.NONE);
        x.setDiodes(false);
        due("P20 positions stay", x.key(0, 0) + x.key(1, 0) + x.key(4, 0), 3);
        press(x, 1, 15, 7);
        due("P20 ghosts then", x.count(3), 4);
        due("P20 the one that joins", x.worstKey(), 4);
        due("P20 ghosts stay", x.count(3), 4);
        x.setKey(5, 1);
        due("P20 ghosts of a ring", x.count(3), 3);
        due("P20 the last one's link", x.worstKey(), 7);
    }

    private static void worstKeyOfRings() {
        KeyScanner x = new KeyScanner();
        x.reset(3, 3);
        press(x, 2, 0, 1, 3);
        press(x, 1, 4);
        due("P20 the second net's ghost", x.count(3), 1);
        due("P20 halfway one is the ghost itself", x.key(4, 6), 1);
        due("P20 lifted, each would be a ghost itself", x.worstKey(), KeyScanner.NONE);
        KeyScanner y = new KeyScanner();
        y.reset(3, 3);
        press(y, 1, 0, 1, 4, 5, 8, 6);
        due("P20 a ring of six has three ghosts", y.count(3), 3);
        due("P20 none would be fewer", y.worstKey(), KeyScanner.NONE);
        KeyScanner z = new KeyScanner();
        z.reset(2, 2);
        press(z, 2, 0, 1);
        press(z, 1, 2);
        due("P20 without key 0 no ghost", z.worstKey(), 0);
    }

    // Promise 21
    private static void restAfter() {
        KeyScanner x = new KeyScanner();
        due("P21 now", x.restAfter(1), 0);
        due("P21 most 0", x.restAfter(0), KeyScanner.BAD_VALUE);
        due("P21 most -1", x.restAfter(-1), KeyScanner.BAD_VALUE);
        due("P21 most 1001", x.restAfter(1001), KeyScanner.BAD_VALUE);
        due("P21 most 1000", x.restAfter(1000), 0);
        x.setKey(5, 2);
        due("P21 pressed, not scanned", x.restAfter(1000), 0);
        x.tick(4);
        due("P21 pressed", x.restAfter(1000), KeyScanner.NONE);
        x.setKey(5, 0);
        due("P21 lifted, too few", x.restAfter(1), KeyScanner.NONE);
        due("P21 lifted, just enough", x.restAfter(2), 2);
        due("P21 lifted", x.restAfter(1000), 2);
        due("P21 nothing changed", x.key(5, 1), 2);
        due("P21 no time passed", x.count(0), 4);
        x.tick(2);
        due("P21 it was so", x.key(5, 1), 0);
        due("P21 at rest", x.restAfter(5), 0);
    }

    private static void restAfterBetweenScans() {
        KeyScanner x = new KeyScanner();
        x.setKey(0, 1);
        x.tick(4);
        x.setKey(0, 0);
        x.setKey(12, 1);
        due("P21 at rest until row 3 is scanned", x.restAfter(1000), 1);
        x.tick(1);
        due("P21 at rest now, though not later", x.restAfter(1000), 0);
        x.tick(3);
        due("P21 no more", x.restAfter(1000), KeyScanner.NONE);
        KeyScanner y = new KeyScanner();
        y.setKey(12, 2);
        y.tick(4);
        y.setKey(12, 0);
        y.setKey(0, 1);
        due("P21 row 0 begins ahead", y.restAfter(1000), KeyScanner.NONE);
        KeyScanner w = new KeyScanner();
        w.setKey(0, 2);
        w.tick(1);
        w.setKey(0, 0);
        due("P21 row 0 is the last one", w.restAfter(1000), 4);
        due("P21 one too few", w.restAfter(3), KeyScanner.NONE);
        KeyScanner z = new KeyScanner();
        z.reset(2, 2);
        press(z, 2, 0, 1, 2);
        z.tick(2);
        press(z, 0, 0, 1);
        due("P21 a key stays", z.restAfter(1000), KeyScanner.NONE);
        z.setKey(2, 0);
        due("P21 the ghost goes, too", z.restAfter(1000), 2);
        z.sustain(true);
        due("P21 pedals don't matter", z.restAfter(1000), 2);
    }

    private static void askingChangesNothing() {
        KeyScanner x = SettingsTest.busy();
        Snapshot.of(x);
        KeyScanner y = SettingsTest.busy();
        CHECK.alike("P13 to P21 answers", x, y);
        x.tick(2);
        y.tick(2);
        due("P13 to P21 alike afterwards", x.sustain(false), y.sustain(false));
        due("P13 to P21 the log alike", x.count(8), y.count(8));
    }
}
