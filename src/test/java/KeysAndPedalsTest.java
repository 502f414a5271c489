/** Promises 8 to 12: keys, pedals and ticks. */
public final class KeysAndPedalsTest {
    private static final Due CHECK = new Due("KeysAndPedalsTest");

    private KeysAndPedalsTest() {
    }

    public static void main(String[] args) {
        setKey();
        setKeyRefuses();
        liftAll();
        sustain();
        sostenuto();
        bothPedals();
        soundingAnewIsNotCaptured();
        tick();
        tickRefuses();
        rowsInTurn();
        phases();
        struckAgainFromHalfway();
        velocities();
        voicesInOrder();
        takenAway();
        ghostsSound();
        CHECK.end();
    }

    private static void due(String call, long got, long want) {
        CHECK.due(call, got, want);
    }

    private static KeyScanner oneRow() {
        KeyScanner x = new KeyScanner();
        x.reset(1, 8);
        return x;
    }

    private static void put(KeyScanner x, int key, int position) {
        x.setKey(key, position);
        x.tick(1);
    }

    /** The latest entry as time, kind and key. */
    private static int entry(KeyScanner x, int number) {
        return x.log(number, 0) * 10000 + x.log(number, 1) * 100 + x.log(number, 2);
    }

    // Promise 8
    private static void setKey() {
        KeyScanner x = new KeyScanner();
        due("P8 to down", x.setKey(15, 2), 0);
        due("P8 to halfway", x.setKey(15, 1), 2);
        due("P8 to halfway again", x.setKey(15, 1), 1);
        due("P8 to up", x.setKey(15, 0), 1);
        due("P8 up", x.key(15, 0), 0);
        due("P8 no time passes", x.count(0), 0);
        x.setKey(15, 2);
        due("P8 no scan by itself", x.key(15, 1), 0);
    }

    private static void setKeyRefuses() {
        KeyScanner x = SettingsTest.busy();
        due("P8 key -1", x.setKey(-1, 0), KeyScanner.UNKNOWN);
        due("P8 key 4 of 4", x.setKey(4, 2), KeyScanner.UNKNOWN);
        due("P8 key least int", x.setKey(Integer.MIN_VALUE, 1), KeyScanner.UNKNOWN);
        due("P8 key greatest int", x.setKey(Integer.MAX_VALUE, 1), KeyScanner.UNKNOWN);
        due("P8 UNKNOWN ahead of BAD_VALUE", x.setKey(4, 3), KeyScanner.UNKNOWN);
        due("P8 position 3", x.setKey(3, 3), KeyScanner.BAD_VALUE);
        due("P8 position -1", x.setKey(3, -1), KeyScanner.BAD_VALUE);
        CHECK.alike("P8 a refused setKey", x, SettingsTest.busy());
    }

    // Promise 9
    private static void liftAll() {
        KeyScanner x = new KeyScanner();
        due("P9 all up", x.liftAll(), 0);
        x.setKey(0, 2);
        x.setKey(1, 1);
        x.setKey(4, 2);
        x.setKey(15, 1);
        x.tick(4);
        due("P9 four, not the ghost", x.liftAll(), 4);
        due("P9 none pressed", x.count(2), 0);
        due("P9 no ghosts", x.count(3), 0);
        due("P9 nothing appears closed", x.key(0, 4) + x.key(0, 5) + x.key(5, 4), 0);
        due("P9 phases stay", x.key(0, 1), 2);
        due("P9 connections go", x.connected(0), 1);
        due("P9 again", x.liftAll(), 0);
        due("P9 then at rest", x.restAfter(4), 4);
    }

    // Promise 10
    private static void sustain() {
        KeyScanner x = oneRow();
        x.setKey(0, 2);
        x.setKey(1, 2);
        put(x, 2, 2);
        due("P10 down", x.sustain(true), 0);
        due("P10 down already", x.sustain(true), 0);
        x.setKey(2, 0);
        put(x, 0, 0);
        due("P10 kept", x.voice(0, 0) * 100 + x.voice(1, 0) * 10 + x.voice(2, 0), 212);
        due("P10 no entry for it", x.count(8), 3);
        due("P10 up", x.sustain(false), 2);
        due("P10 free", x.voice(0, 0) * 100 + x.voice(1, 0) * 10 + x.voice(2, 0), 10);
        due("P10 first entry", entry(x, 1), 20200);
        due("P10 second entry", entry(x, 0), 20202);
        due("P10 up already", x.sustain(false), 0);
        put(x, 1, 0);
        due("P10 no longer kept", x.voice(1, 0), 0);
    }

    // Promise 11
    private static void sostenuto() {
        KeyScanner x = oneRow();
        x.setKey(0, 2);
        put(x, 1, 2);
        due("P11 two are captured", x.sostenuto(true), 2);
        due("P11 down already", x.sostenuto(true), 0);
        due("P11 captured", x.voice(0, 4) + x.voice(1, 4), 2);
        put(x, 2, 2);
        due("P11 a later one is not", x.voice(2, 4), 0);
        put(x, 2, 0);
        due("P11 and is freed", x.voice(2, 0), 0);
        put(x, 0, 0);
        due("P11 the captured one is kept", x.voice(0, 0), 2);
        due("P11 still captured", x.voice(0, 4), 1);
        due("P11 up frees one", x.sostenuto(false), 1);
        due("P11 its entry", entry(x, 0), 40200);
        due("P11 the held one stays", x.voice(1, 0), 1);
        due("P11 none is captured", x.voice(1, 4), 0);
        due("P11 up already", x.sostenuto(false), 0);
        put(x, 1, 0);
        due("P11 free", x.count(6), 0);
        due("P11 nothing to capture", x.sostenuto(true), 0);
    }

    private static void bothPedals() {
        KeyScanner x = oneRow();
        put(x, 0, 2);
        x.sostenuto(true);
        put(x, 1, 2);
        x.sustain(true);
        x.setKey(0, 0);
        put(x, 1, 0);
        due("P10 both kept", x.count(7), 2);
        due("P10 sostenuto keeps the captured one", x.sustain(false), 1);
        due("P10 which one", x.voice(0, 0) * 10 + x.voice(1, 0), 20);
        x.sustain(true);
        due("P11 sustain keeps it", x.sostenuto(false), 0);
        due("P11 not captured any more", x.voice(0, 4), 0);
        due("P11 kept ones are not captured", x.sostenuto(true), 0);
        due("P10 now it goes", x.sustain(false), 1);
    }

    private static void soundingAnewIsNotCaptured() {
        KeyScanner x = oneRow();
        put(x, 0, 2);
        x.sostenuto(true);
        put(x, 0, 0);
        due("P11 kept", x.voice(0, 0), 2);
        put(x, 0, 2);
        due("P11 sounds anew in its voice", x.voice(0, 0), 1);
        due("P11 not captured", x.voice(0, 4), 0);
        put(x, 0, 0);
        due("P11 so it is freed", x.voice(0, 0), 0);
        put(x, 0, 2);
        x.sostenuto(false);
        x.sostenuto(true);
        x.setVoices(1, 0);
        put(x, 1, 2);
        due("P11 a taken voice is not captured", x.voice(0, 1) * 10 + x.voice(0, 4), 10);
    }

    // Promise 12
    private static void tick() {
        KeyScanner x = new KeyScanner();
        due("P12 tick(1)", x.tick(1), 1);
        due("P12 tick(1000)", x.tick(1000), 1001);
        due("P12 time", x.count(0), 1001);
        x.setKey(0, 2);
        x.tick(6);
        due("P12 row 0 at 1004", x.voice(0, 3), 1004);
        x.setKey(0, 1);
        x.tick(999);
        due("P12 behind many", x.count(0), 2006);
        due("P12 beginning in the first of them", x.key(0, 2), 1008);
    }

    private static void tickRefuses() {
        KeyScanner x = SettingsTest.busy();
        due("P12 tick(0)", x.tick(0), KeyScanner.BAD_VALUE);
        due("P12 tick(-1)", x.tick(-1), KeyScanner.BAD_VALUE);
        due("P12 tick(1001)", x.tick(1001), KeyScanner.BAD_VALUE);
        due("P12 tick greatest", x.tick(Integer.MAX_VALUE), KeyScanner.BAD_VALUE);
        due("P12 tick least", x.tick(Integer.MIN_VALUE), KeyScanner.BAD_VALUE);
        CHECK.alike("P12 a refused tick", x, SettingsTest.busy());
    }

    private static void rowsInTurn() {
        KeyScanner x = new KeyScanner();
        x.reset(3, 2);
        x.setDiodes(true);
        for (int key = 5; key >= 0; key--) {
            x.setKey(key, 2);
        }
        x.setVoices(8, 0);
        for (int row = 0; row < 3; row++) {
            x.tick(1);
            due("P12 sounding behind row " + row, x.count(6), 2 * row + 2);
        }
        for (int key = 0; key < 6; key++) {
            due("P12 voice of key " + key, x.key(key, 3), key);
            due("P12 entry of key " + key, entry(x, 5 - key), key / 2 * 10000 + 100 + key);
        }
    }

    private static void phases() {
        KeyScanner x = oneRow();
        x.tick(3);
        put(x, 0, 1);
        due("P12 on the way", x.key(0, 1) * 100 + x.key(0, 2), 103);
        put(x, 0, 0);
        due("P12 back without a strike", x.key(0, 1) * 100 + x.key(0, 2), 0);
        due("P12 no entry", x.count(8), 0);
        put(x, 0, 1);
        put(x, 0, 2);
        due("P12 struck, its beginning stays", x.key(0, 1) * 100 + x.key(0, 2), 205);
        put(x, 0, 1);
        due("P12 on the way back", x.key(0, 1) * 100 + x.key(0, 2), 307);
        due("P12 released", x.key(0, 3), KeyScanner.NONE);
        x.tick(2);
        due("P12 stays on the way back", x.key(0, 1) * 100 + x.key(0, 2), 307);
        put(x, 0, 0);
        due("P12 at rest", x.key(0, 1), 0);
        put(x, 0, 2);
        due("P12 struck in one scan", x.key(0, 1) * 100 + x.key(0, 2), 211);
        put(x, 0, 0);
        due("P12 at rest in one scan", x.key(0, 1), 0);
        due("P12 two strikes", x.count(9), 2);
        due("P12 four entries", x.count(8), 4);
    }

    private static void struckAgainFromHalfway() {
        KeyScanner x = oneRow();
        x.setLateRelease(true);
        put(x, 3, 2);
        put(x, 3, 1);
        x.tick(4);
        put(x, 3, 2);
        due("P12 anew in its voice", x.key(3, 3), 0);
        due("P12 velocity from the turn", x.voice(0, 2), 88);
        due("P12 time anew", x.voice(0, 3), 6);
        due("P12 one voice sounds", x.count(6), 1);
        due("P12 entry anew", entry(x, 0), 60103);
        due("P12 no voice got free", x.count(8), 2);
    }

    private static void velocities() {
        KeyScanner x = new KeyScanner();
        x.reset(3, 1);
        x.setSlope(5);
        x.setKey(1, 1);
        x.tick(10);
        x.setKey(1, 2);
        x.tick(3);
        due("P12 whole rounds", x.voice(0, 2), 113);
        x.setKey(1, 0);
        x.tick(3);
        x.setKey(1, 1);
        x.tick(1000);
        x.setKey(1, 2);
        x.tick(3);
        due("P12 at least 1", x.voice(0, 2), 1);
        x.setKey(2, 2);
        x.tick(3);
        due("P12 at most 127", x.voice(1, 2), 127);
    }

    private static void voicesInOrder() {
        KeyScanner x = oneRow();
        x.setKey(4, 2);
        x.setKey(6, 2);
        put(x, 2, 2);
        due("P12 keys in order", x.voice(0, 1) * 100 + x.voice(1, 1) * 10 + x.voice(2, 1), 246);
        x.setKey(2, 0);
        put(x, 4, 0);
        put(x, 7, 2);
        due("P12 the lowest free voice", x.key(7, 3), 0);
        due("P12 a kept voice of its key", x.sustain(true), 0);
        put(x, 6, 0);
        put(x, 6, 2);
        due("P12 sounds anew", x.key(6, 3), 2);
        due("P12 and is held", x.voice(2, 0), 1);
    }

    private static void takenAway() {
        KeyScanner x = oneRow();
        x.setVoices(2, 0);
        put(x, 0, 2);
        put(x, 1, 2);
        put(x, 2, 2);
        due("P12 the eldest is taken", x.voice(0, 1), 2);
        due("P12 key 0 has none", x.key(0, 3), KeyScanner.NONE);
        due("P12 the entry ahead", entry(x, 1), 20300);
        due("P12 the entry of the new key", entry(x, 0), 20102);
        due("P12 taken away", x.count(11), 1);
        put(x, 0, 0);
        due("P12 its release does nothing", x.count(8), 4);
        x.setKey(3, 2);
        put(x, 4, 2);
        due("P12 both are taken", x.voice(1, 1) * 10 + x.voice(0, 1), 34);
        x.setKey(5, 2);
        put(x, 6, 2);
        due("P12 of equal times the lowest", x.voice(0, 1) * 10 + x.voice(1, 1), 56);
    }

    private static void ghostsSound() {
        KeyScanner x = new KeyScanner();
        x.reset(2, 2);
        x.setKey(0, 2);
        x.setKey(1, 2);
        x.setKey(2, 2);
        x.tick(2);
        due("P12 a ghost sounds", x.key(3, 3), 3);
        due("P12 four strikes", x.count(9), 4);
        x.setKey(0, 0);
        due("P12 it was not pressed", x.count(2), 2);
        x.tick(2);
        due("P12 two are left", x.count(6), 2);
    }
}
