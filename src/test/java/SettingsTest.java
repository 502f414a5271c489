/** Promises 1 to 7: the new object, reset and the settings. */
public final class SettingsTest {
    private static final Due CHECK = new Due("SettingsTest");

    private SettingsTest() {
    }

    public static void main(String[] args) {
        newObject();
        newObjectsFirstRule();
        reset();
        resetFreesAll();
        resetKeepsSettings();
        resetRefuses();
        setDiodes();
        setBlocking();
        blockingRefusesOnlyDoubtfulKeys();
        setLateRelease();
        setSlope();
        setVoices();
        setVoicesRefuses();
        rules();
        CHECK.end();
    }

    private static void due(String call, long got, long want) {
        CHECK.due(call, got, want);
    }

    private static KeyScanner oneRow() {
        KeyScanner x = new KeyScanner();
        x.reset(1, 8);
        return x;
    }

    /** Strikes a key of a single row after some rounds on the way. */
    static void strikeSlowly(KeyScanner x, int key, int rounds) {
        if (rounds > 0) {
            x.setKey(key, 1);
            x.tick(rounds);
        }
        x.setKey(key, 2);
        x.tick(1);
    }

    // Promise 1
    private static void newObject() {
        KeyScanner x = new KeyScanner();
        int[] counts = {0, 16, 0, 0, 0, 4, 0, 0, 0, 0, 0, 0};
        for (int what = 0; what < counts.length; what++) {
            due("P1 count " + what, x.count(what), counts[what]);
        }
        for (int key = 0; key < 16; key++) {
            due("P1 position of " + key, x.key(key, 0), 0);
            due("P1 phase of " + key, x.key(key, 1), 0);
        }
        due("P1 no key 16", x.key(16, 0), KeyScanner.UNKNOWN);
        due("P1 no voice 4", x.voice(4, 0), KeyScanner.UNKNOWN);
        due("P1 voice 3 is free", x.voice(3, 0), 0);
        due("P1 no entry", x.log(0, 0), KeyScanner.NONE);
        due("P1 slope", x.velocity(1), 120);
        due("P1 sustain is up", x.sustain(false), 0);
        due("P1 sostenuto is up", x.sostenuto(false), 0);
        due("P1 at rest", x.restAfter(1), 0);
        due("P1 four rows", x.connected(3), 8);
        due("P1 no fifth row", x.connected(4), KeyScanner.BAD_VALUE);
        due("P1 blocking is off", x.setBlocking(false), 0);
        due("P1 late release is off", x.setLateRelease(false), 0);
        x.setKey(0, 1);
        x.setKey(1, 1);
        x.setKey(4, 1);
        due("P1 no diodes", x.key(5, 6), 1);
        KeyScanner y = new KeyScanner();
        y.setKey(0, 2);
        y.tick(1);
        due("P1 sostenuto can go down", y.sostenuto(true), 1);
    }

    private static void newObjectsFirstRule() {
        KeyScanner x = oneRow();
        strikeSlowly(x, 0, 0);
        x.sustain(true);
        strikeSlowly(x, 1, 9);
        x.setKey(1, 0);
        x.tick(1);
        strikeSlowly(x, 2, 0);
        strikeSlowly(x, 3, 0);
        due("P1 voice 1 is kept", x.voice(1, 0), 2);
        due("P1 voice 1 is soft", x.voice(1, 2), 56);
        due("P1 rule 0", x.nextTaken(), 0);
    }

    // Promise 2
    private static void reset() {
        KeyScanner x = new KeyScanner();
        due("P2 reset(2, 3)", x.reset(2, 3), 6);
        due("P2 reset(8, 8)", x.reset(8, 8), 64);
        due("P2 last key", x.key(63, 0), 0);
        due("P2 no key more", x.key(64, 0), KeyScanner.UNKNOWN);
        due("P2 reset(1, 1)", x.reset(1, 1), 1);
        x.reset(2, 2);
        x.sustain(true);
        x.sostenuto(true);
        x.setVoices(1, 0);
        x.setKey(0, 2);
        x.setKey(3, 2);
        x.tick(3);
        due("P2 one was taken", x.count(11), 1);
        x.setBlocking(true);
        x.setKey(1, 2);
        x.setKey(2, 1);
        x.tick(2);
        due("P2 two were refused", x.count(10), 2);
        due("P2 reset(2, 2)", x.reset(2, 2), 4);
        KeyScanner fresh = new KeyScanner();
        fresh.setVoices(1, 0);
        fresh.setBlocking(true);
        fresh.reset(2, 2);
        CHECK.alike("P2 reset", x, fresh);
        due("P2 blocking stays", x.setBlocking(false), 1);
        x.setKey(0, 2);
        x.tick(2);
        due("P2 no pedal captures", x.voice(0, 4), 0);
        x.setKey(0, 0);
        x.tick(2);
        due("P2 the pedals are up", x.voice(0, 0), 0);
        due("P2 sustain was up", x.sustain(false), 0);
    }

    private static void resetFreesAll() {
        KeyScanner x = new KeyScanner();
        x.setKey(0, 2);
        x.setKey(5, 1);
        x.tick(6);
        due("P2 one is captured", x.sostenuto(true), 1);
        due("P2 reset(4, 4)", x.reset(4, 4), 16);
        int[] free = {0, KeyScanner.NONE, KeyScanner.NONE, KeyScanner.NONE, 0};
        for (int what = 0; what < free.length; what++) {
            due("P2 voice 0 then, " + what, x.voice(0, what), free[what]);
        }
        for (int key = 0; key < 16; key++) {
            for (int what = 0; what < 8; what++) {
                due("P2 key " + key + ", " + what, x.key(key, what),
                    what == 3 ? KeyScanner.NONE : 0);
            }
        }
        due("P2 no entry", x.log(0, 0), KeyScanner.NONE);
        due("P2 no entry made", x.count(8), 0);
        due("P2 no time", x.count(0), 0);
        due("P2 no connections", x.connected(0), 1);
        x.setKey(0, 2);
        x.tick(1);
        due("P2 no pedal was down", x.sostenuto(true), 1);
    }

    private static void resetKeepsSettings() {
        KeyScanner x = new KeyScanner();
        x.setDiodes(true);
        x.setBlocking(true);
        x.setLateRelease(true);
        x.setSlope(3);
        x.setVoices(2, 1);
        x.reset(2, 2);
        due("P2 blocking stays", x.setBlocking(true), 0);
        due("P2 late release stays", x.setLateRelease(true), 0);
        due("P2 slope stays", x.velocity(1), 125);
        due("P2 voices stay", x.count(5), 2);
        x.setBlocking(false);
        x.setKey(0, 2);
        x.tick(2);
        x.setKey(1, 1);
        x.tick(4);
        x.setKey(1, 2);
        x.tick(2);
        due("P2 rule stays", x.nextTaken(), 1);
        x.setKey(2, 1);
        due("P2 diodes stay", x.count(3), 0);
        due("P2 no ghost", x.key(3, 4), 0);
    }

    private static void resetRefuses() {
        int[][] wrong = {{0, 4}, {4, 0}, {9, 4}, {4, 9}, {-1, 4}, {4, -1},
            {Integer.MAX_VALUE, 1}, {1, Integer.MIN_VALUE}};
        KeyScanner x = busy();
        for (int[] two : wrong) {
            due("P2 reset(" + two[0] + ", " + two[1] + ")", x.reset(two[0], two[1]),
                KeyScanner.BAD_VALUE);
        }
        CHECK.alike("P2 a refused reset", x, busy());
    }

    /** Two rows and columns, all kinds of voices, both pedals down. */
    static KeyScanner busy() {
        KeyScanner x = new KeyScanner();
        x.reset(2, 2);
        x.setVoices(3, 2);
        x.setKey(0, 2);
        x.tick(2);
        x.sostenuto(true);
        x.sustain(true);
        x.setKey(3, 2);
        x.tick(3);
        x.setKey(3, 0);
        x.setKey(1, 1);
        x.tick(3);
        x.setKey(0, 1);
        return x;
    }

    // Promise 3
    private static void setDiodes() {
        KeyScanner x = new KeyScanner();
        due("P3 nothing pressed", x.setDiodes(false), 0);
        x.setKey(0, 2);
        x.setKey(1, 2);
        x.setKey(4, 1);
        due("P3 one ghost of first contacts", x.setDiodes(false), 1);
        due("P3 with diodes", x.setDiodes(true), 0);
        due("P3 appears open", x.key(5, 4), 0);
        due("P3 pressed ones appear closed", x.key(4, 4), 1);
        x.setKey(4, 2);
        x.setKey(5, 1);
        due("P3 a halfway key is a ghost", x.setDiodes(false), 1);
        due("P3 its second contact", x.key(5, 5), 1);
        due("P3 again without", x.setDiodes(false), 1);
    }

    // Promise 4
    private static void setBlocking() {
        KeyScanner x = new KeyScanner();
        due("P4 off already", x.setBlocking(false), 0);
        due("P4 on", x.setBlocking(true), 1);
        due("P4 on already", x.setBlocking(true), 0);
        due("P4 off", x.setBlocking(false), 1);
    }

    private static void blockingRefusesOnlyDoubtfulKeys() {
        KeyScanner x = new KeyScanner();
        x.reset(3, 3);
        x.setDiodes(true);
        x.setBlocking(true);
        x.setKey(0, 1);
        x.setKey(1, 1);
        x.setKey(3, 1);
        x.tick(3);
        x.setKey(4, 2);
        x.setKey(8, 2);
        x.tick(3);
        due("P4 refused with diodes", x.count(10), 1);
        due("P4 entry of the refused key", x.log(1, 1) * 100 + x.log(1, 2), 404);
        due("P4 its phase", x.key(4, 1), 2);
        due("P4 no voice", x.key(4, 3), KeyScanner.NONE);
        due("P4 a sure key sounds", x.key(8, 3), 0);
        due("P4 a strike", x.count(9), 1);
        x.setKey(4, 0);
        x.tick(3);
        due("P4 refused keys free no voice", x.count(8), 2);
        x.setBlocking(false);
        x.setKey(4, 2);
        x.tick(3);
        due("P4 off: it sounds", x.key(4, 3), 1);
        x.setBlocking(true);
        x.setLateRelease(true);
        x.setKey(4, 1);
        x.tick(3);
        x.setKey(4, 2);
        x.tick(3);
        due("P4 refused again", x.count(10), 2);
        due("P4 the voice from before sounds on", x.voice(1, 3), 10);
    }

    // Promise 5
    private static void setLateRelease() {
        KeyScanner x = oneRow();
        due("P5 off already", x.setLateRelease(false), 0);
        due("P5 on", x.setLateRelease(true), 1);
        due("P5 on already", x.setLateRelease(true), 0);
        strikeSlowly(x, 0, 0);
        x.setKey(0, 1);
        x.tick(1);
        due("P5 on the way back", x.key(0, 1), 3);
        due("P5 beginning of the way back", x.key(0, 2), 1);
        due("P5 not yet released", x.voice(0, 0), 1);
        x.setKey(0, 0);
        x.tick(1);
        due("P5 released", x.voice(0, 0), 0);
        due("P5 at rest", x.key(0, 1), 0);
        due("P5 entry of the release", x.log(0, 0) * 100 + x.log(0, 1), 202);
        due("P5 off", x.setLateRelease(false), 1);
        strikeSlowly(x, 0, 0);
        x.setKey(0, 1);
        x.tick(1);
        due("P5 released early", x.voice(0, 0), 0);
        due("P5 four entries", x.count(8), 4);
        x.setKey(0, 0);
        x.tick(1);
        due("P5 released once only", x.count(8), 4);
        x.setLateRelease(true);
        strikeSlowly(x, 0, 0);
        x.setKey(0, 0);
        x.tick(1);
        due("P5 from down to up in one scan", x.key(0, 1) * 10 + x.voice(0, 0), 0);
    }

    // Promise 6
    private static void setSlope() {
        KeyScanner x = oneRow();
        due("P6 setSlope(1)", x.setSlope(1), 8);
        due("P6 setSlope(0)", x.setSlope(0), KeyScanner.BAD_VALUE);
        due("P6 setSlope(65)", x.setSlope(65), KeyScanner.BAD_VALUE);
        due("P6 setSlope(-1)", x.setSlope(-1), KeyScanner.BAD_VALUE);
        due("P6 setSlope least int", x.setSlope(Integer.MIN_VALUE), KeyScanner.BAD_VALUE);
        due("P6 unchanged", x.velocity(5), 123);
        due("P6 setSlope(64)", x.setSlope(64), 1);
        due("P6 setSlope(10)", x.setSlope(10), 64);
        strikeSlowly(x, 2, 5);
        due("P6 a strike by it", x.voice(0, 2), 78);
    }

    // Promise 7
    private static void setVoices() {
        KeyScanner x = oneRow();
        due("P7 setVoices(8, 0)", x.setVoices(8, 0), 4);
        for (int key = 0; key < 6; key++) {
            x.setKey(key, 2);
        }
        x.tick(3);
        x.setKey(3, 0);
        x.tick(1);
        due("P7 setVoices(2, 1)", x.setVoices(2, 1), 8);
        due("P7 three get free", x.count(8), 10);
        due("P7 entries", x.log(2, 2) * 100 + x.log(1, 2) * 10 + x.log(0, 2), 245);
        for (int entry = 0; entry < 3; entry++) {
            due("P7 kind of entry " + entry, x.log(entry, 1), 2);
            due("P7 time of entry " + entry, x.log(entry, 0), 4);
        }
        due("P7 they are gone", x.voice(2, 0), KeyScanner.UNKNOWN);
        due("P7 none is free", x.nextTaken(), 0);
        due("P7 setVoices(3, 2)", x.setVoices(3, 2), 2);
        due("P7 a free one more", x.voice(2, 0), 0);
        due("P7 no key there", x.voice(2, 1), KeyScanner.NONE);
        due("P7 key 5 has none", x.key(5, 3), KeyScanner.NONE);
        due("P7 its phase stays", x.key(5, 1), 2);
        x.tick(1);
        due("P7 no strike by that", x.key(5, 3), KeyScanner.NONE);
        due("P7 same number", x.setVoices(3, 2), 3);
        due("P7 no entry by that", x.count(8), 10);
    }

    private static void setVoicesRefuses() {
        int[][] wrong = {{0, 0}, {9, 0}, {1, -1}, {1, 3}, {-1, 1}, {Integer.MAX_VALUE, 0},
            {2, Integer.MIN_VALUE}};
        KeyScanner x = busy();
        for (int[] two : wrong) {
            due("P7 setVoices(" + two[0] + ", " + two[1] + ")", x.setVoices(two[0], two[1]),
                KeyScanner.BAD_VALUE);
        }
        CHECK.alike("P7 a refused setVoices", x, busy());
    }

    private static void rules() {
        KeyScanner x = oneRow();
        x.setVoices(3, 0);
        strikeSlowly(x, 0, 2);
        strikeSlowly(x, 1, 9);
        strikeSlowly(x, 2, 0);
        due("P7 rule 0: the eldest", x.nextTaken(), 0);
        x.setVoices(3, 1);
        due("P7 rule 1: the softest", x.nextTaken(), 1);
        x.setVoices(3, 2);
        due("P7 rule 2, none kept: the eldest", x.nextTaken(), 0);
        x.sustain(true);
        x.setKey(2, 0);
        x.tick(1);
        due("P7 rule 2: the kept one", x.nextTaken(), 2);
        x.setKey(1, 0);
        x.tick(1);
        due("P7 rule 2: the eldest kept one", x.nextTaken(), 1);
        x.setKey(0, 0);
        x.tick(1);
        strikeSlowly(x, 0, 0);
        due("P7 rule 2: held ones stay", x.nextTaken(), 1);
        x.setVoices(3, 0);
        due("P7 anew is younger", x.nextTaken(), 1);
        x.setVoices(3, 1);
        due("P7 rule 1 of those", x.nextTaken(), 1);
        strikeSlowly(x, 5, 0);
        due("P7 taken is that one", x.voice(1, 1), 5);
        due("P7 rule 1 of equal ones: began first", x.nextTaken(), 2);
    }
}
