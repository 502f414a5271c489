/** Short ways to move a scanner and to read what it tells. */
final class Runs {
    private Runs() {
    }

    static KeyScanner matrix(int rows, int columns) {
        KeyScanner x = new KeyScanner();
        x.reset(rows, columns);
        return x;
    }

    /** One row of eight keys: each tick is a round, and no key can be a ghost or doubtful. */
    static KeyScanner row() {
        return matrix(1, 8);
    }

    static KeyScanner row(int voices, int rule) {
        KeyScanner x = row();
        x.setVoices(voices, rule);
        return x;
    }

    static void press(KeyScanner x, int position, int... keys) {
        for (int key : keys) {
            x.setKey(key, position);
        }
    }

    /** Moves keys of a single row and scans them. */
    static void put(KeyScanner x, int position, int... keys) {
        press(x, position, keys);
        x.tick(1);
    }

    /** Strikes a key of a single row so many rounds after its beginning. */
    static void strike(KeyScanner x, int key, int rounds) {
        if (rounds > 0) {
            x.setKey(key, 1);
            x.tick(rounds);
        }
        put(x, 2, key);
    }

    /** Whether each voice is free (0), held (1) or kept (2). */
    static String states(KeyScanner x) {
        return voices(x, 0);
    }

    /** A property of each voice. */
    static String voices(KeyScanner x, int what) {
        StringBuilder text = new StringBuilder();
        for (int voice = 0; voice < x.count(5); voice++) {
            add(text, x.voice(voice, what));
        }
        return text.toString();
    }

    /** All properties of a voice: state, key, velocity, time, captured. */
    static String voice(KeyScanner x, int voice) {
        StringBuilder text = new StringBuilder();
        for (int what = 0; what <= 4; what++) {
            add(text, x.voice(voice, what));
        }
        return text.toString();
    }

    /** All properties of a key: position, phase, beginning, voice, 1st, 2nd, ghost, doubtful. */
    static String key(KeyScanner x, int key) {
        StringBuilder text = new StringBuilder();
        for (int what = 0; what <= 7; what++) {
            add(text, x.key(key, what));
        }
        return text.toString();
    }

    /** A property of each key. */
    static String keys(KeyScanner x, int what) {
        StringBuilder text = new StringBuilder();
        for (int key = 0; key < x.count(1); key++) {
            add(text, x.key(key, what));
        }
        return text.toString();
    }

    static String counts(KeyScanner x) {
        StringBuilder text = new StringBuilder();
        for (int what = 0; what <= 11; what++) {
            add(text, x.count(what));
        }
        return text.toString();
    }

    /** The latest entries, the oldest of them first, each as time:kind:key. */
    static String log(KeyScanner x, int entries) {
        StringBuilder text = new StringBuilder();
        for (int entry = entries - 1; entry >= 0; entry--) {
            text.append(text.length() == 0 ? "" : " ").append(x.log(entry, 0)).append(':')
                .append(x.log(entry, 1)).append(':').append(x.log(entry, 2));
        }
        return text.toString();
    }

    static String numbers(int... numbers) {
        StringBuilder text = new StringBuilder();
        for (int number : numbers) {
            add(text, number);
        }
        return text.toString();
    }

    /** The same number for each of so many things. */
    static String times(int many, int number) {
        StringBuilder text = new StringBuilder();
        for (int i = 0; i < many; i++) {
            add(text, number);
        }
        return text.toString();
    }

    private static void add(StringBuilder text, int number) {
        text.append(text.length() == 0 ? "" : " ").append(number);
    }
}
