/**
 * Pairs of scanners with the same calls behind them: one of them gets one call more, and whether
 * that changed anything is seen by comparing all that both tell then and later.
 */
final class Twins {
    /** A call, to be made on an object. */
    interface Call {
        int on(KeyScanner x);
    }

    private Twins() {
    }

    /** The call must be answered so, and must change nothing, in each of the busy states. */
    static void refuses(Book book, String call, int want, Call made) {
        for (int kind = 0; kind < 3; kind++) {
            KeyScanner x = busy(kind);
            book.due(call + " on busy " + kind, made.on(x), want);
            book.alike("what " + call + " left of busy " + kind, x, busy(kind));
        }
    }

    /** Whatever the call answers, it must change nothing. */
    static void leaves(Book book, String call, Call made) {
        for (int kind = 0; kind < 3; kind++) {
            KeyScanner x = busy(kind);
            made.on(x);
            book.alike("what " + call + " left of busy " + kind, x, busy(kind));
        }
    }

    /**
     * Two rows of four keys and three voices, one of each age, velocity and state, so that each
     * rule (which is the kind) takes another one; a log that has turned over, keys in each phase,
     * both pedals down, ghosts (with diodes in one kind), refused and taken keys, and hardly a
     * setting as at first.
     */
    static KeyScanner busy(int kind) {
        KeyScanner x = Runs.matrix(2, 4);
        x.setVoices(1, 0);
        for (int i = 0; i < 4; i++) {
            Runs.press(x, 2, 3, 6);
            x.tick(2);
            x.liftAll();
            x.tick(2);
        }
        x.setVoices(3, kind);
        x.setSlope(5);
        x.setKey(0, 2);
        x.tick(2);
        x.setKey(5, 1);
        x.tick(6);
        x.setKey(5, 2);
        x.tick(2);
        x.setKey(2, 2);
        x.tick(2);
        x.sustain(true);
        x.setKey(2, 0);
        x.tick(2);
        x.sostenuto(true);
        x.setBlocking(true);
        x.setKey(4, 1);
        x.tick(2);
        x.setKey(4, 2);
        x.tick(3);
        x.setLateRelease(true);
        x.setKey(5, 1);
        x.tick(2);
        x.setKey(7, 1);
        x.setDiodes(kind == 1);
        return x;
    }

    /** All that an object tells now and after moves that bring to light what it hides. */
    static String tell(KeyScanner x) {
        StringBuilder text = new StringBuilder(Snapshot.of(x));
        text.append(" then");
        add(text, x.setLateRelease(true));
        add(text, x.setBlocking(true));
        add(text, x.tick(1));
        add(text, x.setDiodes(true));
        add(text, x.setDiodes(false));
        add(text, x.setSlope(5));
        add(text, x.liftAll());
        add(text, x.tick(8));
        // A key struck and released shows where the pedals are.
        add(text, x.setKey(0, 2));
        add(text, x.tick(8));
        add(text, x.sostenuto(true));
        add(text, x.setKey(0, 0));
        add(text, x.tick(8));
        add(text, x.count(7));
        add(text, x.setVoices(8, 1));
        add(text, x.sustain(false));
        add(text, x.sostenuto(false));
        text.append(' ').append(Runs.counts(x)).append(' ').append(Runs.log(x, 16));
        return text.toString();
    }

    private static void add(StringBuilder text, int answer) {
        text.append(' ').append(answer);
    }
}
