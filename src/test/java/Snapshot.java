/** All that a scanner of a small matrix tells of itself, as a text. */
final class Snapshot {
    private Snapshot() {
    }

    /** Some 150 calls for four keys and four voices. */
    static String of(KeyScanner x) {
        StringBuilder text = new StringBuilder();
        text.append("counts");
        for (int what = 0; what <= 11; what++) {
            add(text, x.count(what));
        }
        for (int key = 0; key < x.count(1); key++) {
            text.append(" key");
            for (int what = 0; what <= 7; what++) {
                add(text, x.key(key, what));
            }
        }
        for (int voice = 0; voice < x.count(5); voice++) {
            text.append(" voice");
            for (int what = 0; what <= 4; what++) {
                add(text, x.voice(voice, what));
            }
        }
        for (int entry = 0; entry < Math.min(16, x.count(8)); entry++) {
            text.append(" entry");
            for (int what = 0; what <= 2; what++) {
                add(text, x.log(entry, what));
            }
        }
        text.append(" rest");
        add(text, x.velocity(3));
        add(text, x.nextTaken());
        add(text, x.connected(0));
        add(text, x.worstKey());
        add(text, x.restAfter(1000));
        return text.toString();
    }

    private static void add(StringBuilder text, int answer) {
        text.append(' ').append(answer);
    }
}
