/** Promises 13, 19 and 20, sentence by sentence: keys, contacts, ghosts and doubts. */
final class MatrixSentences {
    private static final int BAD = KeyScanner.BAD_VALUE;
    private static final int NONE = KeyScanner.NONE;
    private static final int UNKNOWN = KeyScanner.UNKNOWN;
    private static final int LEAST = Integer.MIN_VALUE;
    private static final int GREATEST = Integer.MAX_VALUE;

    private final Book book;

    private MatrixSentences(Book book) {
        this.book = book;
    }

    static void run(Book book) {
        MatrixSentences tests = new MatrixSentences(book);
        tests.promise13();
        tests.contacts();
        tests.doubts();
        tests.promise19();
        tests.promise20();
    }

    private void due(String call, long got, long want) {
        book.due(call, got, want);
    }

    private void due(String call, String got, String want) {
        book.due(call, got, want);
    }

    // ---- Promise 13: key

    private void promise13() {
        book.promise(13);
        eachKey();
        position();
        phase();
        beginning();
        voiceOfAKey();
        appearances();
        whetherAGhost();
        whetherDoubtful();
        propertyOfAKey();
    }

    private void eachKey() {
        book.says("`key`: a key");
        for (int[] shape : new int[][] {{1, 1}, {1, 8}, {8, 1}, {3, 5}, {8, 8}}) {
            KeyScanner x = Runs.matrix(shape[0], shape[1]);
            int keys = shape[0] * shape[1];
            due("key 0 of " + keys, x.key(0, 0), 0);
            due("the last of " + keys, x.key(keys - 1, 0), 0);
            for (int what = 0; what <= 7; what++) {
                due("the key behind it, " + what, x.key(keys, what), UNKNOWN);
                due("the key ahead of 0, " + what, x.key(-1, what), UNKNOWN);
            }
        }
        for (int key : new int[] {8, -1, LEAST, GREATEST}) {
            Twins.refuses(book, "key(" + key + ", 0)", UNKNOWN, x -> x.key(key, 0));
        }
    }

    private void position() {
        book.says("`what`: 0 for its position,");
        KeyScanner x = Runs.row();
        for (int position : new int[] {0, 1, 2, 1, 0, 2, 0}) {
            x.setKey(7, position);
            due("moved", x.key(7, 0), position);
            x.tick(1);
            due("and scanned", x.key(7, 0), position);
        }
        Runs.press(x, 2, 3);
        due("another key", x.key(7, 0), 0);
    }

    private void phase() {
        book.says("1 for its phase,");
        KeyScanner x = Runs.row();
        int[] positions = {0, 1, 2, 1, 0};
        int[] phases = {0, 1, 2, 3, 0};
        for (int i = 0; i < positions.length; i++) {
            x.setKey(7, positions[i]);
            due("not yet scanned", x.key(7, 1), i == 0 ? 0 : phases[i - 1]);
            x.tick(1);
            due("scanned", x.key(7, 1), phases[i]);
        }
    }

    private void beginning() {
        book.says("2 for its beginning (0 in phase 0),");
        KeyScanner x = Runs.row();
        due("at first", x.key(7, 2), 0);
        x.tick(4);
        Runs.put(x, 1, 7);
        due("phase 1", x.key(7, 2), 4);
        Runs.put(x, 2, 7);
        due("phase 2, of the way", x.key(7, 2), 4);
        Runs.put(x, 1, 7);
        due("phase 3", x.key(7, 2), 6);
        Runs.put(x, 2, 7);
        due("phase 2, of the way back", x.key(7, 2), 6);
        Runs.put(x, 0, 7);
        due("phase 0", x.key(7, 2), 0);
        Runs.put(x, 1, 7);
        Runs.put(x, 0, 7);
        due("phase 0 behind phase 1", x.key(7, 2), 0);
    }

    private void voiceOfAKey() {
        book.says("3 for its voice,");
        KeyScanner x = Runs.row(8, 0);
        Runs.put(x, 2, 7, 6, 5, 4, 3, 2, 1, 0);
        for (int key = 0; key < 8; key++) {
            due("held, of key " + key, x.key(key, 3), key);
        }
        x.sustain(true);
        x.liftAll();
        x.tick(1);
        due("kept, of key 7", x.key(7, 3), 7);
        due("kept, of key 0", x.key(0, 3), 0);
        x.sustain(false);
        due("free", x.key(0, 3), NONE);
        Runs.put(x, 2, 4, 2);
        x.setVoices(1, 0);
        due("left by a smaller number of voices", Runs.keys(x, 3), "-3 -3 0 -3 -3 -3 -3 -3");
        x.reset(1, 8);
        due("behind reset", x.key(2, 3), NONE);
    }

    private void appearances() {
        book.says("4 for whether its first and 5 for whether its second contact appears closed,");
        KeyScanner x = Runs.matrix(2, 3);
        Runs.press(x, 2, 0, 1);
        Runs.press(x, 1, 3);
        due("first contacts", Runs.keys(x, 4), "1 1 0 1 1 0");
        due("second contacts", Runs.keys(x, 5), "1 1 0 0 0 0");
        x.setKey(3, 2);
        due("second contacts then", Runs.keys(x, 5), "1 1 0 1 1 0");
        due("no scan is needed", x.count(0), 0);
    }

    private void whetherAGhost() {
        book.says("6 for whether it is a ghost,");
        KeyScanner x = Runs.matrix(2, 3);
        Runs.press(x, 2, 0, 1, 3);
        due("up, both contacts", Runs.keys(x, 6), "0 0 0 0 1 0");
        x.setKey(4, 1);
        due("halfway, the second one", Runs.keys(x, 6), "0 0 0 0 1 0");
        x.setKey(4, 2);
        due("down", Runs.keys(x, 6), "0 0 0 0 0 0");
        Runs.press(x, 1, 0);
        x.setKey(4, 0);
        due("up, the first one", Runs.keys(x, 6), "0 0 0 0 1 0");
    }

    private void whetherDoubtful() {
        book.says("7 for whether it is doubtful (1, otherwise 0)");
        KeyScanner x = Runs.matrix(2, 3);
        Runs.press(x, 1, 0, 1);
        due("two in a row", Runs.keys(x, 7), "0 0 0 0 0 0");
        x.setKey(4, 1);
        due("three and a ghost", Runs.keys(x, 7), "1 1 0 1 1 0");
        x.setKey(3, 2);
        due("four", Runs.keys(x, 7), "1 1 0 1 1 0");
        x.setKey(2, 1);
        due("all", Runs.keys(x, 7), "1 1 1 1 1 1");
    }

    private void propertyOfAKey() {
        book.says("Returns the property; UNKNOWN; BAD_VALUE; NONE for 3 if no voice has this key.");
        KeyScanner x = new KeyScanner();
        due("no voice at first", x.key(0, 3), NONE);
        due("no voice of the last key", x.key(15, 3), NONE);
        for (int what : new int[] {-1, 8, LEAST, GREATEST}) {
            Twins.refuses(book, "key(0, " + what + ")", BAD, y -> y.key(0, what));
            Twins.refuses(book, "key(7, " + what + ")", BAD, y -> y.key(7, what));
            Twins.refuses(book, "key(8, " + what + ")", UNKNOWN, y -> y.key(8, what));
            Twins.refuses(book, "key(-1, " + what + ")", UNKNOWN, y -> y.key(-1, what));
        }
        Twins.refuses(book, "key(1, 3)", NONE, y -> y.key(1, 3));
        for (int what = 0; what <= 7; what++) {
            int asked = what;
            Twins.leaves(book, "key(5, " + what + ")", y -> y.key(5, asked));
        }
    }

    // ---- contacts

    private void contacts() {
        twoNets();
        withDiodes();
        withoutDiodes();
        theLongestWay();
        closedAlwaysAppears();
        firstWithTheSecond();
        ghosts();
    }

    private void twoNets() {
        book.described("The first contacts of all keys are one net, the second contacts another"
            + " one.");
        KeyScanner x = Runs.matrix(3, 3);
        Runs.press(x, 2, 0);
        Runs.press(x, 1, 1, 3, 4);
        due("all four first contacts", Runs.keys(x, 4), "1 1 0 1 1 0 0 0 0");
        due("one second contact", Runs.keys(x, 5), "1 0 0 0 0 0 0 0 0");
        Runs.press(x, 2, 4);
        due("two second contacts join nothing", Runs.keys(x, 5), "1 0 0 0 1 0 0 0 0");
        Runs.press(x, 2, 3);
        due("three make a ghost", Runs.keys(x, 5), "1 1 0 1 1 0 0 0 0");
        due("of the halfway key", x.key(1, 6), 1);
    }

    private void withDiodes() {
        book.described("With diodes, a contact appears closed if it is closed.");
        for (int state = 0; state < 81; state++) {
            int[] positions = {state % 3, state / 3 % 3, state / 9 % 3, state / 27};
            KeyScanner x = Runs.matrix(2, 2);
            x.setDiodes(true);
            for (int key = 0; key < 4; key++) {
                x.setKey(key, positions[key]);
            }
            String text = " of " + Runs.numbers(positions);
            due("first contacts" + text, Runs.keys(x, 4), closed(positions, 1));
            due("second contacts" + text, Runs.keys(x, 5), closed(positions, 2));
            due("ghosts" + text, x.count(3), 0);
        }
    }

    private static String closed(int[] positions, int least) {
        int[] closed = new int[positions.length];
        for (int key = 0; key < positions.length; key++) {
            closed[key] = positions[key] >= least ? 1 : 0;
        }
        return Runs.numbers(closed);
    }

    private void withoutDiodes() {
        book.described("Without diodes, a contact appears closed if its row and its column are"
            + " connected in its net by closed contacts:");
        KeyScanner x = Runs.matrix(3, 3);
        Runs.press(x, 2, 0, 4, 8);
        due("a diagonal connects nothing", Runs.keys(x, 4), "1 0 0 0 1 0 0 0 1");
        x.setKey(1, 2);
        due("a corner does", Runs.keys(x, 4), "1 1 0 1 1 0 0 0 1");
        due("second contacts, too", Runs.keys(x, 5), "1 1 0 1 1 0 0 0 1");
        x.setKey(5, 2);
        due("all", Runs.keys(x, 4), Runs.times(9, 1));
        due("all second contacts", Runs.keys(x, 5), Runs.times(9, 1));
        x.setKey(4, 0);
        due("broken in the middle", Runs.keys(x, 4), "1 1 0 0 0 1 0 0 1");
        KeyScanner y = Runs.matrix(8, 1);
        Runs.press(y, 1, 0, 7);
        due("one column has no ghosts", Runs.keys(y, 4), "1 0 0 0 0 0 0 1");
        KeyScanner z = Runs.row();
        Runs.press(z, 1, 0, 7);
        due("one row has no ghosts", Runs.keys(z, 4), "1 0 0 0 0 0 0 1");
    }

    private void theLongestWay() {
        book.described("a closed contact connects its row with its column, and connections go on"
            + " through rows and columns.");
        int[][] orders = {{0, 1, 2, 3, 4, 5, 6, 7}, {7, 6, 5, 4, 3, 2, 1, 0},
            {3, 7, 0, 5, 2, 6, 1, 4}, {4, 0, 6, 2, 7, 1, 5, 3}};
        for (int[] rows : orders) {
            for (int[] columns : orders) {
                stair(rows, columns);
            }
        }
    }

    /** Fifteen contacts in a chain through all rows and columns, in these orders. */
    private void stair(int[] rows, int[] columns) {
        String text = " of rows " + Runs.numbers(rows) + " and columns " + Runs.numbers(columns);
        KeyScanner x = Runs.matrix(8, 8);
        for (int i = 0; i < 8; i++) {
            x.setKey(rows[i] * 8 + columns[i], 2);
            if (i > 0) {
                x.setKey(rows[i] * 8 + columns[i - 1], 2);
            }
        }
        due("the ends' first contact" + text, x.key(rows[0] * 8 + columns[7], 4), 1);
        due("first contacts" + text, Runs.keys(x, 4), Runs.times(64, 1));
        due("second contacts" + text, Runs.keys(x, 5), Runs.times(64, 1));
        due("ghosts" + text, x.count(3), 49);
        x.setKey(rows[4] * 8 + columns[3], 1);
        due("without the eighth, the ends' second contact" + text,
            x.key(rows[0] * 8 + columns[7], 5), 0);
        due("the halves'" + text, x.key(rows[0] * 8 + columns[3], 5)
            + x.key(rows[4] * 8 + columns[7], 5), 2);
        due("first contacts stay" + text, x.key(rows[0] * 8 + columns[7], 4), 1);
        x.setKey(rows[4] * 8 + columns[3], 0);
        due("the ends' first contact then" + text, x.key(rows[0] * 8 + columns[7], 4), 0);
    }

    private void closedAlwaysAppears() {
        book.described("(So a contact that is closed always appears closed.)");
        for (int pattern = 0; pattern < 40; pattern++) {
            KeyScanner x = Runs.matrix(4, 4);
            x.setDiodes(pattern % 2 == 1);
            for (int key = 0; key < 16; key++) {
                x.setKey(key, (key * (pattern + 3) + key * key / 3 + pattern) % 3);
            }
            for (int key = 0; key < 16; key++) {
                int position = x.key(key, 0);
                if (position >= 1) {
                    due("first of " + key + " in pattern " + pattern, x.key(key, 4), 1);
                }
                if (position == 2) {
                    due("second of " + key + " in pattern " + pattern, x.key(key, 5), 1);
                }
            }
        }
    }

    private void firstWithTheSecond() {
        book.described("The first contact of a key counts as appearing closed, too, if its second"
            + " contact appears closed.");
        KeyScanner x = Runs.matrix(3, 3);
        Runs.press(x, 2, 0, 2, 8);
        due("second contacts with a ghost", Runs.keys(x, 5), "1 0 1 0 0 0 1 0 1");
        due("its first one", x.key(6, 4), 1);
        x.tick(3);
        due("so it is struck in one scan", Runs.key(x, 6), "0 2 2 2 1 1 1 1");
        Runs.press(x, 1, 0, 2, 8);
        due("first contacts alone", x.key(6, 4) * 10 + x.key(6, 5), 10);
    }

    private void ghosts() {
        book.described("A key is a ghost if one of its contacts appears closed, but is not"
            + " closed.");
        for (int position = 0; position <= 2; position++) {
            for (int others = 0; others <= 2; others++) {
                KeyScanner x = Runs.matrix(2, 2);
                Runs.press(x, others, 0, 1, 2);
                x.setKey(3, position);
                due("position " + position + " among " + others, x.key(3, 6),
                    position < others ? 1 : 0);
                due("count(3) then", x.count(3), position < others ? 1 : 0);
            }
        }
        KeyScanner y = Runs.matrix(8, 8);
        due("no key", y.count(3), 0);
        Runs.press(y, 1, 0, 7, 56);
        due("the farthest corner", y.key(63, 6), 1);
        due("it alone", y.count(3), 1);
        for (int key = 0; key < 64; key++) {
            y.setKey(key, 2);
        }
        due("all down", y.count(3), 0);
    }

    private void doubts() {
        book.described("A key is doubtful if its first contact appears closed, and in another row"
            + " and another column there is a second key such that the first contacts of the"
            + " second key, and of the two keys where the rows and columns of both cross, appear"
            + " closed, too (with diodes, too).");
        doubtsOfSquares();
        doubtsOfLines();
        doubtsOfFullMatrices();
    }

    private void doubtsOfSquares() {
        KeyScanner x = Runs.matrix(8, 8);
        x.setDiodes(true);
        Runs.press(x, 1, 0, 7, 56);
        due("three corners with diodes", x.count(4), 0);
        x.setKey(63, 1);
        due("four corners with diodes", x.count(4), 4);
        due("each of them", x.key(0, 7) + x.key(7, 7) + x.key(56, 7) + x.key(63, 7), 4);
        for (int corner : new int[] {0, 7, 56, 63}) {
            x.setKey(corner, 0);
            due("without the corner " + corner, x.count(4), 0);
            x.setKey(corner, 2);
            due("first contacts count, with it down", x.count(4), 4);
            x.setKey(corner, 1);
        }
        Runs.press(x, 1, 1, 8, 10);
        due("others are not doubtful by that", x.count(4), 4);
        x.setKey(2, 1);
        x.setKey(9, 1);
        due("a second square, and what it has with the first", x.count(4), 9);
        x.setDiodes(false);
        x.liftAll();
        Runs.press(x, 1, 0, 7, 56);
        due("three corners and a ghost without diodes", x.count(4), 4);
        due("the ghost", x.key(63, 7), 1);
    }

    private void doubtsOfLines() {
        KeyScanner row = Runs.row();
        KeyScanner column = Runs.matrix(8, 1);
        KeyScanner one = Runs.matrix(1, 1);
        for (int key = 0; key < 8; key++) {
            row.setKey(key, 2);
            column.setKey(key, 2);
        }
        one.setKey(0, 2);
        due("a full row", row.count(4), 0);
        due("a full column", column.count(4), 0);
        due("the only key", one.count(4), 0);
        KeyScanner pairs = Runs.matrix(3, 3);
        pairs.setDiodes(true);
        Runs.press(pairs, 2, 0, 1, 5, 8);
        due("pairs that cross nowhere", pairs.count(4), 0);
    }

    private void doubtsOfFullMatrices() {
        KeyScanner small = Runs.matrix(2, 2);
        small.setDiodes(true);
        Runs.press(small, 1, 0, 1, 2, 3);
        due("the smallest square", small.count(4), 4);
        KeyScanner full = Runs.matrix(8, 8);
        for (int key = 0; key < 64; key++) {
            full.setKey(key, 1);
        }
        due("a full matrix", full.count(4), 64);
    }

    // ---- Promise 19: connected

    private void promise19() {
        book.promise(19);
        connectedWithARow();
        eachRow();
        setsOfBits();
    }

    private void connectedWithARow() {
        book.says("Returns the rows and columns that are connected with a row in the net of the"
            + " first contacts (whether there are diodes or not).");
        for (int diodes = 0; diodes <= 1; diodes++) {
            KeyScanner x = new KeyScanner();
            x.setDiodes(diodes == 1);
            Runs.press(x, 1, 0, 2, 10);
            String text = ", diodes " + diodes;
            due("row 0" + text, x.connected(0), 5 + 256 * 5);
            due("row 1" + text, x.connected(1), 2);
            due("row 2" + text, x.connected(2), 5 + 256 * 5);
            due("row 3" + text, x.connected(3), 8);
            Runs.press(x, 2, 0, 2, 10);
            due("keys that are down" + text, x.connected(2), 5 + 256 * 5);
            Runs.press(x, 2, 7);
            Runs.press(x, 1, 15);
            due("another group" + text, x.connected(1), 10 + 256 * 8);
            due("the first one" + text, x.connected(0), 5 + 256 * 5);
            Runs.press(x, 1, 14);
            due("both joined" + text, x.connected(1), 15 + 256 * 13);
        }
    }

    private void eachRow() {
        book.says("`row`: a row, 0 to the number of rows minus 1");
        for (int rows = 1; rows <= 8; rows++) {
            KeyScanner x = Runs.matrix(rows, 9 - rows);
            for (int row = 0; row < rows; row++) {
                due("row " + row + " of " + rows, x.connected(row), 1 << row);
            }
            due("row " + rows + " of " + rows, x.connected(rows), BAD);
            due("row -1 of " + rows, x.connected(-1), BAD);
        }
        for (int row : new int[] {-1, 2, 3, 7, 8, LEAST, GREATEST}) {
            Twins.refuses(book, "connected(" + row + ")", BAD, x -> x.connected(row));
        }
    }

    private void setsOfBits() {
        book.says("Returns the connected rows as a bit set, this one included, plus 256 times the"
            + " set of connected columns; BAD_VALUE.");
        KeyScanner x = Runs.matrix(8, 8);
        due("nothing pressed, row 7", x.connected(7), 128);
        x.setKey(63, 1);
        due("the last key", x.connected(7), 128 + 256 * 128);
        x.setKey(0, 1);
        due("the first key", x.connected(0), 1 + 256 * 1);
        x.setKey(7, 1);
        due("both by the corner", x.connected(0), 129 + 256 * 129);
        for (int key = 0; key < 64; key++) {
            x.setKey(key, 1);
        }
        for (int row = 0; row < 8; row++) {
            due("all pressed, row " + row, x.connected(row), 65535);
        }
        KeyScanner y = Runs.matrix(1, 1);
        due("the only row", y.connected(0), 1);
        y.setKey(0, 1);
        due("with the only key", y.connected(0), 257);
        x.reset(8, 8);
        due("behind reset", x.connected(3), 8);
        Twins.leaves(book, "connected(1)", z -> z.connected(1));
    }

    // ---- Promise 20: worstKey

    private void promise20() {
        book.promise(20);
        fewestGhosts();
        eachPattern();
        itCanBeOneOfThem();
        lowestOrNone();
    }

    private void fewestGhosts() {
        book.says("Finds the key that is not up and that, if it were up, would leave the fewest"
            + " ghosts");
        KeyScanner x = new KeyScanner();
        Runs.press(x, 1, 1, 2, 5, 9, 13);
        due("ghosts of a row and a column", x.count(3), 3);
        due("the corner would leave 0", x.worstKey(), 1);
        x.setKey(6, 1);
        due("two ghosts less", x.count(3), 2);
        due("a row that goes takes its ghost along", x.worstKey(), 9);
        KeyScanner y = Runs.matrix(3, 3);
        Runs.press(y, 1, 0, 1, 3);
        Runs.press(y, 2, 8);
        due("the last key has no part in it", y.worstKey(), 0);
        KeyScanner z = Runs.matrix(8, 8);
        Runs.press(z, 1, 0, 1, 2, 3, 4, 5, 6, 7, 63);
        due("the joint at the end, though not the lowest key", z.worstKey(), 7);
        due("ghosts", z.count(3), 7);
        z.setKey(62, 1);
        due("six ghosts", z.count(3), 6);
        due("none would leave none, key 0 would take its column along", z.worstKey(), 0);
        z.setKey(62, 0);
        z.setKey(55, 1);
        due("two rows of ghosts", z.count(3), 14);
        due("the joint of both", z.worstKey(), 7);
        Twins.leaves(book, "worstKey()", w -> w.worstKey());
    }

    /** As the sentence says: each key is moved up for a trial, and moved back. */
    private static int worst(KeyScanner x) {
        int worst = NONE;
        int fewest = x.count(3);
        for (int key = 0; key < x.count(1); key++) {
            int position = x.key(key, 0);
            if (position != 0) {
                x.setKey(key, 0);
                int left = x.count(3);
                x.setKey(key, position);
                if (left < fewest) {
                    fewest = left;
                    worst = key;
                }
            }
        }
        return worst;
    }

    private void eachPattern() {
        book.says("Finds the key that is not up and that, if it were up, would leave the fewest");
        long seed = 20;
        for (int pattern = 0; pattern < 600; pattern++) {
            KeyScanner x = Runs.matrix(1 + pattern % 6, 1 + pattern / 6 % 6);
            int keys = x.count(1);
            int pressed = 2 + pattern % 11;
            for (int i = 0; i < pressed; i++) {
                seed = seed * 6364136223846793005L + 1442695040888963407L;
                x.setKey((int) ((seed >>> 33) % keys), 1 + (int) (seed >>> 60) % 2);
            }
            due("pattern " + pattern, x.worstKey(), worst(x));
        }
    }

    private void itCanBeOneOfThem() {
        book.says("(it can be one of them).");
        KeyScanner x = Runs.matrix(3, 3);
        Runs.press(x, 2, 0, 1, 2, 3, 6);
        Runs.press(x, 1, 4, 5, 7, 8);
        due("ghosts of second contacts", x.count(3), 4);
        due("the key that would be the only ghost", x.worstKey(), 0);
        KeyScanner y = Runs.matrix(2, 2);
        Runs.press(y, 2, 0, 1, 2);
        Runs.press(y, 1, 3);
        due("one ghost", y.count(3), 1);
        due("each would be a ghost instead", y.worstKey(), NONE);
    }

    private void lowestOrNone() {
        book.says("Returns the key, the lowest one of several; NONE if there are no ghosts now, or"
            + " none would be fewer.");
        KeyScanner x = new KeyScanner();
        due("nothing pressed", x.worstKey(), NONE);
        Runs.press(x, 1, 15, 14, 11);
        due("of three the lowest", x.worstKey(), 11);
        x.setDiodes(true);
        due("no ghosts with diodes", x.worstKey(), NONE);
        x.setDiodes(false);
        x.setKey(10, 1);
        due("no ghosts among four", x.worstKey(), NONE);
        KeyScanner y = Runs.matrix(8, 8);
        for (int key = 0; key < 64; key++) {
            y.setKey(key, 2);
        }
        due("all pressed", y.worstKey(), NONE);
        y.reset(8, 8);
        due("behind reset", y.worstKey(), NONE);
        KeyScanner z = Runs.matrix(3, 3);
        Runs.press(z, 1, 0, 1, 4, 5, 8, 6);
        due("a ring has ghosts", z.count(3), 3);
        due("none would be fewer", z.worstKey(), NONE);
        KeyScanner w = Twins.busy(1);
        due("busy, with diodes", w.worstKey(), NONE);
        book.alike("what it left", w, Twins.busy(1));
    }
}
