/**
 * Promises 3, 8, 13, 15 and 19 to 21: each position that all keys of a small matrix can have, with
 * and without diodes, on the program and on the model side by side.
 */
public final class MatrixTest {
    private static final Due CHECK = new Due("MatrixTest");
    private static final int[][] SHAPES = {{1, 1}, {2, 2}, {3, 3}, {2, 4}, {4, 2}, {1, 5}, {5, 1}};
    private static final int POSITIONS = 3;

    private MatrixTest() {
    }

    public static void main(String[] args) {
        for (int[] shape : SHAPES) {
            int[] positions = new int[shape[0] * shape[1]];
            do {
                compare(shape, positions, false);
                compare(shape, positions, true);
            } while (CHECK.isRight() && next(positions));
        }
        CHECK.end();
    }

    /** Counts up, a key a digit; false behind the last number. */
    private static boolean next(int[] positions) {
        for (int key = 0; key < positions.length; key++) {
            positions[key] = (positions[key] + 1) % POSITIONS;
            if (positions[key] != 0) {
                return true;
            }
        }
        return false;
    }

    private static void compare(int[] shape, int[] positions, boolean diodes) {
        KeyScanner x = new KeyScanner();
        Model m = new Model();
        due("reset", x.reset(shape[0], shape[1]), m.reset(shape[0], shape[1]));
        for (int key = 0; key < positions.length; key++) {
            due("P8 setKey", x.setKey(key, positions[key]), m.setKey(key, positions[key]));
        }
        due("P3 setDiodes", x.setDiodes(diodes), m.setDiodes(diodes));
        for (int key = 0; key < positions.length; key++) {
            for (int what = 4; what <= 7; what++) {
                due("P13 key", x.key(key, what), m.key(key, what));
            }
        }
        for (int row = 0; row < shape[0]; row++) {
            due("P19 connected", x.connected(row), m.connected(row));
        }
        due("P20 worstKey", x.worstKey(), m.worstKey());
        due("P8 position behind P20", x.setKey(0, positions[0]), m.setKey(0, positions[0]));
        x.setBlocking(true);
        m.setBlocking(true);
        for (int i = 0; i <= shape[0]; i++) {
            due("P21 restAfter", x.restAfter(1000), m.restAfter(10));
            due("P12 tick", x.tick(1), m.tick(1));
        }
        for (int what = 0; what <= 11; what++) {
            due("P15 count", x.count(what), m.count(what));
        }
    }

    private static void due(String call, int got, int want) {
        CHECK.due(call, got, want);
    }
}
