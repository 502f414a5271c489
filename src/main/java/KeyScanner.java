/**
 * The key scanner of an electronic piano, as ../shared/DOC.md describes it: a matrix of keys
 * with two contacts each, ghosts, voices, two pedals and a log.
 */
public final class KeyScanner {
    public static final int UNKNOWN = -1;
    public static final int BAD_VALUE = -2;
    public static final int NONE = -3;

    private static final int MAX_LINES = 8;
    private static final int MAX_KEYS = MAX_LINES * MAX_LINES;
    private static final int FIRST_LINES = 4;
    private static final int MAX_VOICES = 8;
    private static final int FIRST_VOICES = 4;
    private static final int MAX_SLOPE = 64;
    private static final int FIRST_SLOPE = 8;
    private static final int MAX_TICKS = 1000;
    private static final int MAX_ROUNDS = 1000;
    private static final int LOG_SIZE = 16;
    private static final int SHIFT_OF_COLUMNS = 8;

    private static final int UP = 0;
    private static final int HALFWAY = 1;
    private static final int DOWN = 2;

    private static final int AT_REST = 0;
    private static final int ON_THE_WAY = 1;
    private static final int STRUCK = 2;
    private static final int ON_THE_WAY_BACK = 3;

    private static final int FREE = 0;
    private static final int HELD = 1;
    private static final int KEPT = 2;

    private static final int BY_AGE = 0;
    private static final int BY_VELOCITY = 1;
    private static final int KEPT_FIRST = 2;

    private static final int SOUNDS = 1;
    private static final int GETS_FREE = 2;
    private static final int TAKEN_AWAY = 3;
    private static final int REFUSED = 4;

    private final Matrix matrix = new Matrix();
    private final Journal journal = new Journal();
    private final Voices voices = new Voices(journal);
    private final int[] phases = new int[MAX_KEYS];
    private final int[] beginnings = new int[MAX_KEYS];
    private int time = 0;
    private int slope = FIRST_SLOPE;
    private boolean blocking = false;
    private boolean lateRelease = false;
    private int strikes = 0;
    private int refused = 0;

    public KeyScanner() {
    }

    // ---- settings

    public int reset(int rows, int columns) {
        if (!within(rows, 1, MAX_LINES) || !within(columns, 1, MAX_LINES)) {
            return BAD_VALUE;
        }
        matrix.layOut(rows, columns);
        journal.empty();
        voices.silence();
        for (int key = 0; key < MAX_KEYS; key++) {
            phases[key] = AT_REST;
        }
        time = 0;
        strikes = 0;
        refused = 0;
        return matrix.size();
    }

    public int setDiodes(boolean on) {
        matrix.diodes = on;
        return matrix.ghosts();
    }

    public int setBlocking(boolean on) {
        int change = one(blocking != on);
        blocking = on;
        return change;
    }

    public int setLateRelease(boolean on) {
        int change = one(lateRelease != on);
        lateRelease = on;
        return change;
    }

    public int setSlope(int slope) {
        if (!within(slope, 1, MAX_SLOPE)) {
            return BAD_VALUE;
        }
        int previous = this.slope;
        this.slope = slope;
        return previous;
    }

    public int setVoices(int voices, int rule) {
        if (!within(voices, 1, MAX_VOICES) || !within(rule, BY_AGE, KEPT_FIRST)) {
            return BAD_VALUE;
        }
        int previous = this.voices.number;
        this.voices.limit(voices, time);
        this.voices.rule = rule;
        return previous;
    }

    // ---- keys and pedals

    public int setKey(int key, int position) {
        if (!matrix.has(key)) {
            return UNKNOWN;
        }
        if (!within(position, UP, DOWN)) {
            return BAD_VALUE;
        }
        int previous = matrix.positions[key];
        matrix.move(key, position);
        return previous;
    }

    public int liftAll() {
        int lifted = matrix.pressed();
        matrix.lift();
        return lifted;
    }

    public int sustain(boolean down) {
        return voices.moveSustain(down, time);
    }

    public int sostenuto(boolean down) {
        return voices.moveSostenuto(down, time);
    }

    public int tick(int ticks) {
        if (!within(ticks, 1, MAX_TICKS)) {
            return BAD_VALUE;
        }
        // A second scan of a key finds nothing to do while no key moves: one round is enough.
        int scans = Math.min(ticks, matrix.rows);
        for (int i = 0; i < scans; i++) {
            scanRow(Math.floorMod(time, matrix.rows));
            time++;
        }
        time += ticks - scans;
        return time;
    }

    // ---- what there is

    public int key(int key, int what) {
        if (!matrix.has(key)) {
            return UNKNOWN;
        }
        switch (what) {
            case 0:
                return matrix.positions[key];
            case 1:
                return phases[key];
            case 2:
                return phases[key] == AT_REST ? 0 : beginnings[key];
            case 3:
                return voices.withKey(key);
            case 4:
                return one(matrix.firstSeen(key));
            case 5:
                return one(matrix.secondSeen(key));
            case 6:
                return one(matrix.isGhost(key));
            case 7:
                return one(matrix.isDoubtful(key));
            default:
                return BAD_VALUE;
        }
    }

    public int voice(int voice, int what) {
        if (voice < 0 || voice >= voices.number) {
            return UNKNOWN;
        }
        boolean free = voices.states[voice] == FREE;
        switch (what) {
            case 0:
                return voices.states[voice];
            case 1:
                return free ? NONE : voices.keys[voice];
            case 2:
                return free ? NONE : voices.velocities[voice];
            case 3:
                return free ? NONE : voices.begun[voice];
            case 4:
                return one(voices.captured[voice]);
            default:
                return BAD_VALUE;
        }
    }

    public int count(int what) {
        switch (what) {
            case 0:
                return time;
            case 1:
                return matrix.size();
            case 2:
                return matrix.pressed();
            case 3:
                return matrix.ghosts();
            case 4:
                return matrix.doubtful();
            case 5:
                return voices.number;
            case 6:
                return voices.number - voices.inState(FREE);
            case 7:
                return voices.inState(KEPT);
            case 8:
                return journal.made;
            case 9:
                return strikes;
            case 10:
                return refused;
            case 11:
                return voices.taken;
            default:
                return BAD_VALUE;
        }
    }

    public int log(int entry, int what) {
        if (entry < 0 || !within(what, 0, 2)) {
            return BAD_VALUE;
        }
        if (entry >= journal.size()) {
            return NONE;
        }
        int place = journal.place(entry);
        switch (what) {
            case 0:
                return journal.times[place];
            case 1:
                return journal.kinds[place];
            default:
                return journal.keys[place];
        }
    }

    public int velocity(int rounds) {
        return within(rounds, 0, MAX_ROUNDS) ? velocityAfter(rounds) : BAD_VALUE;
    }

    public int nextTaken() {
        return voices.firstFree() == NONE ? voices.victim() : NONE;
    }

    public int connected(int row) {
        if (row < 0 || row >= matrix.rows) {
            return BAD_VALUE;
        }
        return matrix.first.rowsJoinedWith(row) | (matrix.first.joined[row] << SHIFT_OF_COLUMNS);
    }

    public int worstKey() {
        int worst = NONE;
        int fewest = matrix.ghosts();
        // This bound also spares the trials when there is no ghost to lose.
        for (int key = 0; key < matrix.size() && fewest > 0; key++) {
            if (matrix.positions[key] != UP) {
                int left = matrix.ghostsWithout(key);
                if (left < fewest) {
                    fewest = left;
                    worst = key;
                }
            }
        }
        return worst;
    }

    public int restAfter(int most) {
        if (!within(most, 1, MAX_TICKS)) {
            return BAD_VALUE;
        }
        // Behind a round every key has been scanned, and later scans change no phase.
        int last = Math.min(most, matrix.rows);
        for (int ticks = 0; ticks <= last; ticks++) {
            if (allRestBehind(ticks)) {
                return ticks;
            }
        }
        return NONE;
    }

    // ---- scanning

    private void scanRow(int row) {
        int start = row * matrix.columns;
        for (int column = 0; column < matrix.columns; column++) {
            scanKey(start + column);
        }
    }

    private void scanKey(int key) {
        boolean first = matrix.firstSeen(key);
        boolean second = matrix.secondSeen(key);
        boolean wasStruck = phases[key] == STRUCK;
        if (phases[key] == AT_REST && first) {
            enter(key, ON_THE_WAY);
        }
        if (phases[key] == ON_THE_WAY) {
            if (second) {
                strike(key);
            } else if (!first) {
                phases[key] = AT_REST;
            }
        }
        if (wasStruck && !second) {
            if (!lateRelease) {
                voices.release(key, time);
            }
            enter(key, ON_THE_WAY_BACK);
        }
        if (phases[key] == ON_THE_WAY_BACK) {
            if (second) {
                strike(key);
            } else if (!first) {
                voices.release(key, time);
                phases[key] = AT_REST;
            }
        }
    }

    private void enter(int key, int phase) {
        phases[key] = phase;
        beginnings[key] = time;
    }

    private void strike(int key) {
        phases[key] = STRUCK;
        if (blocking && matrix.isDoubtful(key)) {
            refused++;
            journal.write(time, REFUSED, key);
        } else {
            strikes++;
            voices.sound(key, velocityAfter((time - beginnings[key]) / matrix.rows), time);
        }
    }

    private int velocityAfter(int rounds) {
        return Math.max(1, Math.min(127, 128 - slope * rounds));
    }

    private boolean allRestBehind(int ticks) {
        for (int row = 0; row < matrix.rows; row++) {
            boolean scanned = Math.floorMod(row - time, matrix.rows) < ticks;
            // Whatever its phase was, a scan leaves a key at rest just if its first contact
            // does not appear closed.
            boolean rests = scanned ? matrix.seen(matrix.first, row) == 0 : rowRests(row);
            if (!rests) {
                return false;
            }
        }
        return true;
    }

    private boolean rowRests(int row) {
        int start = row * matrix.columns;
        for (int column = 0; column < matrix.columns; column++) {
            if (phases[start + column] != AT_REST) {
                return false;
            }
        }
        return true;
    }

    private static boolean within(int value, int least, int greatest) {
        return value >= least && value <= greatest;
    }

    private static int one(boolean yes) {
        return yes ? 1 : 0;
    }

    /** One net of contacts; for each row a bit set of columns. */
    private static final class Net {
        final int[] closed = new int[MAX_LINES];
        final int[] joined = new int[MAX_LINES];

        void open() {
            for (int row = 0; row < MAX_LINES; row++) {
                closed[row] = 0;
                joined[row] = 0;
            }
        }

        void put(int row, int column, boolean isClosed) {
            int bit = 1 << column;
            closed[row] = isClosed ? closed[row] | bit : closed[row] & ~bit;
            join();
        }

        /**
         * Once a column is through, the rows that it joins have the same columns; so each column
         * must be taken only once, as in Warshall's closure.
         */
        private void join() {
            for (int row = 0; row < MAX_LINES; row++) {
                joined[row] = closed[row];
            }
            for (int column = 0; column < MAX_LINES; column++) {
                joinThrough(1 << column);
            }
        }

        private void joinThrough(int bit) {
            int union = 0;
            for (int row = 0; row < MAX_LINES; row++) {
                if ((joined[row] & bit) != 0) {
                    union |= joined[row];
                }
            }
            for (int row = 0; row < MAX_LINES; row++) {
                if ((joined[row] & bit) != 0) {
                    joined[row] = union;
                }
            }
        }

        int rowsJoinedWith(int row) {
            int rows = 1 << row;
            for (int other = 0; other < MAX_LINES; other++) {
                if ((joined[other] & joined[row]) != 0) {
                    rows |= 1 << other;
                }
            }
            return rows;
        }
    }

    /** The keys' positions and what the contacts show of them. */
    private static final class Matrix {
        final int[] positions = new int[MAX_KEYS];
        final Net first = new Net();
        final Net second = new Net();
        int rows = FIRST_LINES;
        int columns = FIRST_LINES;
        boolean diodes = false;

        int size() {
            return rows * columns;
        }

        boolean has(int key) {
            return key >= 0 && key < size();
        }

        void layOut(int newRows, int newColumns) {
            rows = newRows;
            columns = newColumns;
            lift();
        }

        void lift() {
            for (int key = 0; key < MAX_KEYS; key++) {
                positions[key] = UP;
            }
            first.open();
            second.open();
        }

        void move(int key, int position) {
            positions[key] = position;
            first.put(key / columns, key % columns, position >= HALFWAY);
            second.put(key / columns, key % columns, position == DOWN);
        }

        int pressed() {
            int number = 0;
            for (int key = 0; key < size(); key++) {
                number += one(positions[key] != UP);
            }
            return number;
        }

        int seen(Net net, int row) {
            return diodes ? net.closed[row] : net.joined[row];
        }

        // A second contact is closed only beside a closed first one: what the second net joins,
        // the first net joins too, and no look at the second one is needed here.
        boolean firstSeen(int key) {
            return contains(seen(first, key / columns), key % columns);
        }

        boolean secondSeen(int key) {
            return contains(seen(second, key / columns), key % columns);
        }

        boolean isGhost(int key) {
            return contains(ghostsIn(key / columns), key % columns);
        }

        boolean isDoubtful(int key) {
            int row = key / columns;
            int bit = 1 << (key % columns);
            for (int other = 0; other < rows; other++) {
                int common = seen(first, row) & seen(first, other);
                if (other != row && (common & bit) != 0 && common != bit) {
                    return true;
                }
            }
            return false;
        }

        int doubtful() {
            int number = 0;
            for (int key = 0; key < size(); key++) {
                number += one(isDoubtful(key));
            }
            return number;
        }

        int ghosts() {
            int number = 0;
            for (int row = 0; row < rows; row++) {
                number += Integer.bitCount(ghostsIn(row));
            }
            return number;
        }

        int ghostsWithout(int key) {
            int position = positions[key];
            move(key, UP);
            int number = ghosts();
            move(key, position);
            return number;
        }

        private int ghostsIn(int row) {
            return (seen(first, row) & ~first.closed[row]) | (seen(second, row) & ~second.closed[row]);
        }

        private static boolean contains(int columnSet, int column) {
            return ((columnSet >> column) & 1) != 0;
        }
    }

    /** The latest entries, in a ring. */
    private static final class Journal {
        final int[] times = new int[LOG_SIZE];
        final int[] kinds = new int[LOG_SIZE];
        final int[] keys = new int[LOG_SIZE];
        int made = 0;

        void empty() {
            made = 0;
        }

        void write(int time, int kind, int key) {
            int place = Math.floorMod(made, LOG_SIZE);
            times[place] = time;
            kinds[place] = kind;
            keys[place] = key;
            made++;
        }

        int size() {
            return Math.min(made, LOG_SIZE);
        }

        int place(int entry) {
            return Math.floorMod(made - 1 - entry, LOG_SIZE);
        }
    }

    /** The voices and the pedals that keep them. */
    private static final class Voices {
        final int[] states = new int[MAX_VOICES];
        final int[] keys = new int[MAX_VOICES];
        final int[] velocities = new int[MAX_VOICES];
        final int[] begun = new int[MAX_VOICES];
        final boolean[] captured = new boolean[MAX_VOICES];
        final Journal journal;
        int number = FIRST_VOICES;
        int rule = BY_AGE;
        int taken = 0;
        boolean sustained = false;
        boolean sostenutoDown = false;

        Voices(Journal journal) {
            this.journal = journal;
        }

        void silence() {
            for (int voice = 0; voice < MAX_VOICES; voice++) {
                states[voice] = FREE;
                captured[voice] = false;
            }
            taken = 0;
            sustained = false;
            sostenutoDown = false;
        }

        void limit(int newNumber, int now) {
            for (int voice = newNumber; voice < number; voice++) {
                if (states[voice] != FREE) {
                    free(voice, now);
                }
            }
            number = newNumber;
        }

        void sound(int key, int velocity, int now) {
            int voice = withKey(key);
            if (voice == NONE) {
                voice = firstFree();
            }
            if (voice == NONE) {
                voice = victim();
                taken++;
                journal.write(now, TAKEN_AWAY, keys[voice]);
            }
            states[voice] = HELD;
            keys[voice] = key;
            velocities[voice] = velocity;
            begun[voice] = now;
            captured[voice] = false;
            journal.write(now, SOUNDS, key);
        }

        void release(int key, int now) {
            int voice = withKey(key);
            if (voice == NONE || states[voice] != HELD) {
                return;
            }
            if (isKeptByPedal(voice)) {
                states[voice] = KEPT;
            } else {
                free(voice, now);
            }
        }

        int moveSustain(boolean down, int now) {
            if (down == sustained) {
                return 0;
            }
            sustained = down;
            return down ? 0 : freeKept(now);
        }

        int moveSostenuto(boolean down, int now) {
            if (down == sostenutoDown) {
                return 0;
            }
            sostenutoDown = down;
            for (int voice = 0; voice < number; voice++) {
                captured[voice] = down && states[voice] == HELD;
            }
            return down ? inState(HELD) : freeKept(now);
        }

        int withKey(int key) {
            for (int voice = 0; voice < number; voice++) {
                if (states[voice] != FREE && keys[voice] == key) {
                    return voice;
                }
            }
            return NONE;
        }

        int firstFree() {
            for (int voice = 0; voice < number; voice++) {
                if (states[voice] == FREE) {
                    return voice;
                }
            }
            return NONE;
        }

        /** The voice to be taken away, where none is free. */
        int victim() {
            int best = 0;
            for (int voice = 1; voice < number; voice++) {
                if (goesBefore(voice, best)) {
                    best = voice;
                }
            }
            return best;
        }

        int inState(int state) {
            int found = 0;
            for (int voice = 0; voice < number; voice++) {
                if (states[voice] == state) {
                    found++;
                }
            }
            return found;
        }

        private boolean goesBefore(int voice, int other) {
            if (rule == KEPT_FIRST && states[voice] != states[other]) {
                return states[voice] == KEPT;
            }
            if (rule == BY_VELOCITY && velocities[voice] != velocities[other]) {
                return velocities[voice] < velocities[other];
            }
            return begun[voice] < begun[other];
        }

        private boolean isKeptByPedal(int voice) {
            return sustained || (sostenutoDown && captured[voice]);
        }

        private int freeKept(int now) {
            int freed = 0;
            for (int voice = 0; voice < number; voice++) {
                if (states[voice] == KEPT && !isKeptByPedal(voice)) {
                    free(voice, now);
                    freed++;
                }
            }
            return freed;
        }

        private void free(int voice, int now) {
            states[voice] = FREE;
            captured[voice] = false;
            journal.write(now, GETS_FREE, keys[voice]);
        }
    }
}
