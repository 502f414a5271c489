import java.util.ArrayList;
import java.util.List;

/**
 * A second scanner, written sentence by sentence after the document and with other means than
 * the program, to compare answers with: no bit sets, no shortcuts, every tick is gone through.
 */
final class Model {
    static final class Voice {
        int key;
        int velocity;
        int began;
        boolean held;
        boolean captured;
    }

    int rows = 4;
    int columns = 4;
    boolean diodes;
    boolean blocking;
    boolean late;
    int slope = 8;
    int rule;
    Voice[] voices = new Voice[4];
    int[] position = new int[16];
    int[] phase = new int[16];
    int[] beginning = new int[16];
    int time;
    boolean sustain;
    boolean sostenuto;
    List<int[]> log = new ArrayList<>();
    int strikes;
    int refused;
    int taken;

    int reset(int r, int c) {
        if (r < 1 || r > 8 || c < 1 || c > 8) {
            return -2;
        }
        rows = r;
        columns = c;
        voices = new Voice[voices.length];
        position = new int[r * c];
        phase = new int[r * c];
        beginning = new int[r * c];
        time = 0;
        sustain = false;
        sostenuto = false;
        log = new ArrayList<>();
        strikes = 0;
        refused = 0;
        taken = 0;
        return r * c;
    }

    /** Walks from the row through closed contacts; lines 0..7 are rows, 8..15 columns. */
    boolean[] reach(int[] at, int row, int least) {
        boolean[] been = new boolean[16];
        List<Integer> todo = new ArrayList<>();
        todo.add(row);
        been[row] = true;
        while (!todo.isEmpty()) {
            int line = todo.remove(todo.size() - 1);
            for (int k = 0; k < at.length; k++) {
                if (at[k] < least) {
                    continue;
                }
                int a = k / columns;
                int b = 8 + k % columns;
                int next = line == a ? b : line == b ? a : -1;
                if (next >= 0 && !been[next]) {
                    been[next] = true;
                    todo.add(next);
                }
            }
        }
        return been;
    }

    boolean appears(int[] at, int k, int least) {
        if (diodes) {
            return at[k] >= least;
        }
        return reach(at, k / columns, least)[8 + k % columns];
    }

    boolean first(int[] at, int k) {
        return appears(at, k, 1) || second(at, k);
    }

    boolean second(int[] at, int k) {
        return appears(at, k, 2);
    }

    boolean ghost(int[] at, int k) {
        return first(at, k) && at[k] < 1 || second(at, k) && at[k] < 2;
    }

    int ghosts(int[] at) {
        int n = 0;
        for (int k = 0; k < at.length; k++) {
            n += ghost(at, k) ? 1 : 0;
        }
        return n;
    }

    boolean doubtful(int k) {
        if (!first(position, k)) {
            return false;
        }
        for (int other = 0; other < position.length; other++) {
            boolean apart = other / columns != k / columns && other % columns != k % columns;
            if (apart && first(position, other)
                    && first(position, k / columns * columns + other % columns)
                    && first(position, other / columns * columns + k % columns)) {
                return true;
            }
        }
        return false;
    }

    int setDiodes(boolean on) {
        diodes = on;
        return ghosts(position);
    }

    int setBlocking(boolean on) {
        int change = blocking == on ? 0 : 1;
        blocking = on;
        return change;
    }

    int setLateRelease(boolean on) {
        int change = late == on ? 0 : 1;
        late = on;
        return change;
    }

    int setSlope(int s) {
        if (s < 1 || s > 64) {
            return -2;
        }
        int before = slope;
        slope = s;
        return before;
    }

    int setVoices(int n, int r) {
        if (n < 1 || n > 8 || r < 0 || r > 2) {
            return -2;
        }
        int before = voices.length;
        Voice[] left = new Voice[n];
        for (int v = 0; v < before; v++) {
            if (v < n) {
                left[v] = voices[v];
            } else if (voices[v] != null) {
                log.add(new int[] {time, 2, voices[v].key});
            }
        }
        voices = left;
        rule = r;
        return before;
    }

    int setKey(int k, int p) {
        if (k < 0 || k >= position.length) {
            return -1;
        }
        if (p < 0 || p > 2) {
            return -2;
        }
        int before = position[k];
        position[k] = p;
        return before;
    }

    int liftAll() {
        int n = count(2);
        position = new int[position.length];
        return n;
    }

    int freeWhatNoPedalKeeps() {
        int n = 0;
        for (int v = 0; v < voices.length; v++) {
            Voice x = voices[v];
            if (x != null && !x.held && !sustain && !(sostenuto && x.captured)) {
                log.add(new int[] {time, 2, x.key});
                voices[v] = null;
                n++;
            }
        }
        return n;
    }

    int sustain(boolean down) {
        if (sustain == down) {
            return 0;
        }
        sustain = down;
        return down ? 0 : freeWhatNoPedalKeeps();
    }

    int sostenuto(boolean down) {
        if (sostenuto == down) {
            return 0;
        }
        sostenuto = down;
        int n = 0;
        for (Voice x : voices) {
            if (x != null) {
                x.captured = down && x.held;
                n += x.captured ? 1 : 0;
            }
        }
        return down ? n : freeWhatNoPedalKeeps();
    }

    int tick(int ticks) {
        if (ticks < 1 || ticks > 1000) {
            return -2;
        }
        boolean[] one = new boolean[position.length];
        boolean[] two = new boolean[position.length];
        look(one, two);
        for (int i = 0; i < ticks; i++) {
            int row = time % rows;
            for (int k = row * columns; k < row * columns + columns; k++) {
                scan(k, one[k], two[k]);
            }
            time++;
        }
        return time;
    }

    void look(boolean[] one, boolean[] two) {
        for (int k = 0; k < position.length; k++) {
            one[k] = first(position, k);
            two[k] = second(position, k);
        }
    }

    void scan(int k, boolean one, boolean two) {
        int before = phase[k];
        if (phase[k] == 0 && one) {
            phase[k] = 1;
            beginning[k] = time;
        }
        if (phase[k] == 1) {
            if (two) {
                strike(k);
                phase[k] = 2;
            } else if (!one) {
                phase[k] = 0;
            }
        }
        if (phase[k] == 2 && before == 2 && !two) {
            if (!late) {
                release(k);
            }
            phase[k] = 3;
            beginning[k] = time;
        }
        if (phase[k] == 3) {
            if (two) {
                strike(k);
                phase[k] = 2;
            } else if (!one) {
                release(k);
                phase[k] = 0;
            }
        }
    }

    void strike(int k) {
        if (blocking && doubtful(k)) {
            refused++;
            log.add(new int[] {time, 4, k});
            return;
        }
        strikes++;
        int v = voiceOf(k);
        for (int i = 0; i < voices.length && v < 0; i++) {
            if (voices[i] == null) {
                v = i;
            }
        }
        if (v < 0) {
            v = nextTaken();
            taken++;
            log.add(new int[] {time, 3, voices[v].key});
        }
        Voice x = new Voice();
        x.key = k;
        x.velocity = force((time - beginning[k]) / rows);
        x.began = time;
        x.held = true;
        voices[v] = x;
        log.add(new int[] {time, 1, k});
    }

    void release(int k) {
        int v = voiceOf(k);
        if (v < 0 || !voices[v].held) {
            return;
        }
        if (sustain || sostenuto && voices[v].captured) {
            voices[v].held = false;
        } else {
            log.add(new int[] {time, 2, k});
            voices[v] = null;
        }
    }

    int voiceOf(int k) {
        for (int v = 0; v < voices.length; v++) {
            if (voices[v] != null && voices[v].key == k) {
                return v;
            }
        }
        return -3;
    }

    int force(int rounds) {
        int f = 128 - slope * rounds;
        return f > 127 ? 127 : f < 1 ? 1 : f;
    }

    int key(int k, int what) {
        if (k < 0 || k >= position.length) {
            return -1;
        }
        switch (what) {
            case 0: return position[k];
            case 1: return phase[k];
            case 2: return phase[k] == 0 ? 0 : beginning[k];
            case 3: return voiceOf(k);
            case 4: return first(position, k) ? 1 : 0;
            case 5: return second(position, k) ? 1 : 0;
            case 6: return ghost(position, k) ? 1 : 0;
            case 7: return doubtful(k) ? 1 : 0;
            default: return -2;
        }
    }

    int voice(int v, int what) {
        if (v < 0 || v >= voices.length) {
            return -1;
        }
        if (what < 0 || what > 4) {
            return -2;
        }
        Voice x = voices[v];
        if (x == null) {
            return what == 0 || what == 4 ? 0 : -3;
        }
        return new int[] {x.held ? 1 : 2, x.key, x.velocity, x.began, x.captured ? 1 : 0}[what];
    }

    int count(int what) {
        int up = 0;
        int doubts = 0;
        for (int k = 0; k < position.length; k++) {
            up += position[k] == 0 ? 1 : 0;
            doubts += what == 4 && doubtful(k) ? 1 : 0;
        }
        int sounding = 0;
        int kept = 0;
        for (Voice x : voices) {
            sounding += x != null ? 1 : 0;
            kept += x != null && !x.held ? 1 : 0;
        }
        switch (what) {
            case 0: return time;
            case 1: return position.length;
            case 2: return position.length - up;
            case 3: return ghosts(position);
            case 4: return doubts;
            case 5: return voices.length;
            case 6: return sounding;
            case 7: return kept;
            case 8: return log.size();
            case 9: return strikes;
            case 10: return refused;
            case 11: return taken;
            default: return -2;
        }
    }

    int log(int entry, int what) {
        if (entry < 0 || what < 0 || what > 2) {
            return -2;
        }
        if (entry >= 16 || entry >= log.size()) {
            return -3;
        }
        return log.get(log.size() - 1 - entry)[what];
    }

    int velocity(int rounds) {
        return rounds < 0 || rounds > 1000 ? -2 : force(rounds);
    }

    int nextTaken() {
        int kept = 0;
        for (Voice x : voices) {
            if (x == null) {
                return -3;
            }
            kept += x.held ? 0 : 1;
        }
        int best = -1;
        long least = 0;
        for (int v = 0; v < voices.length; v++) {
            Voice x = voices[v];
            if (rule == 2 && kept > 0 && x.held) {
                continue;
            }
            long rank = x.began + (rule == 1 ? x.velocity * 1000000000L : 0L);
            if (best < 0 || rank < least) {
                best = v;
                least = rank;
            }
        }
        return best;
    }

    int connected(int row) {
        if (row < 0 || row >= rows) {
            return -2;
        }
        boolean[] lines = reach(position, row, 1);
        int set = 0;
        for (int line = 0; line < 16; line++) {
            set += lines[line] ? 1 << line : 0;
        }
        return set;
    }

    int worstKey() {
        int now = ghosts(position);
        int best = -3;
        int fewest = now;
        for (int k = 0; k < position.length; k++) {
            if (position[k] == 0) {
                continue;
            }
            int[] trial = position.clone();
            trial[k] = 0;
            int left = ghosts(trial);
            if (left < fewest) {
                fewest = left;
                best = k;
            }
        }
        return best;
    }

    int restAfter(int most) {
        if (most < 1 || most > 1000) {
            return -2;
        }
        int[] p = phase.clone();
        boolean[] one = new boolean[p.length];
        boolean[] two = new boolean[p.length];
        look(one, two);
        for (int t = 0; t <= most; t++) {
            boolean all = true;
            for (int x : p) {
                all &= x == 0;
            }
            if (all) {
                return t;
            }
            int row = (time + t) % rows;
            for (int k = row * columns; k < row * columns + columns; k++) {
                p[k] = behind(p[k], one[k], two[k]);
            }
        }
        return -3;
    }

    static int behind(int before, boolean one, boolean two) {
        int p = before;
        if (p == 0 && one) {
            p = 1;
        }
        if (p == 1) {
            p = two ? 2 : one ? 1 : 0;
        }
        if (p == 2 && before == 2 && !two) {
            p = 3;
        }
        if (p == 3) {
            p = two ? 2 : one ? 3 : 0;
        }
        return p;
    }
}
