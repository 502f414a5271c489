/** The description's part on errors, for each promise that can report one. */
final class ErrorsSentences {
    private static final int BAD = KeyScanner.BAD_VALUE;
    private static final int NONE = KeyScanner.NONE;
    private static final int UNKNOWN = KeyScanner.UNKNOWN;

    private final Book book;

    private ErrorsSentences(Book book) {
        this.book = book;
    }

    static void run(Book book) {
        ErrorsSentences tests = new ErrorsSentences(book);
        tests.constants();
        tests.orderOfChecks();
        tests.noneOnlyWithoutAnError();
        tests.errorsChangeNothing();
        tests.aPromiseEach();
    }

    private void due(String call, long got, long want) {
        book.due(call, got, want);
    }

    private void constants() {
        KeyScanner x = new KeyScanner();
        book.promise(8);
        book.described("Errors are reported by the constants below.");
        due("setKey(16, 0)", x.setKey(16, 0), -1);
        due("setKey(15, 3)", x.setKey(15, 3), -2);
        book.promise(13);
        book.described("The constants: `UNKNOWN = -1`: There is no such key or voice.");
        due("UNKNOWN", UNKNOWN, -1);
        due("no such key", x.key(16, 0), -1);
        due("no such voice", x.voice(4, 0), -1);
        book.promise(15);
        book.described("`BAD_VALUE = -2`: Another argument is out of range.");
        due("BAD_VALUE", BAD, -2);
        due("count(12)", x.count(12), -2);
        due("key(0, 8)", x.key(0, 8), -2);
        due("voice(0, 5)", x.voice(0, 5), -2);
        due("connected(4)", x.connected(4), -2);
        book.promise(18);
        book.described("`NONE = -3`: There is no such thing; not an error.");
        due("NONE", NONE, -3);
        due("nextTaken()", x.nextTaken(), -3);
        due("worstKey()", x.worstKey(), -3);
        due("key(0, 3)", x.key(0, 3), -3);
        due("voice(0, 1)", x.voice(0, 1), -3);
        due("log(0, 0)", x.log(0, 0), -3);
    }

    private void orderOfChecks() {
        KeyScanner x = new KeyScanner();
        String words = "Where several errors can apply, the order of the @return line is the order"
            + " of the checks.";
        int[] wrong = {-1, Integer.MIN_VALUE, Integer.MAX_VALUE};
        book.promise(8);
        book.described(words);
        for (int position : new int[] {-1, 3, Integer.MIN_VALUE, Integer.MAX_VALUE}) {
            due("setKey(16, " + position + ")", x.setKey(16, position), UNKNOWN);
            for (int key : wrong) {
                due("setKey(" + key + ", " + position + ")", x.setKey(key, position), UNKNOWN);
            }
        }
        book.promise(13);
        book.described(words);
        for (int what : new int[] {-1, 8, Integer.MIN_VALUE, Integer.MAX_VALUE}) {
            due("key(16, " + what + ")", x.key(16, what), UNKNOWN);
            for (int key : wrong) {
                due("key(" + key + ", " + what + ")", x.key(key, what), UNKNOWN);
            }
        }
        book.promise(14);
        book.described(words);
        for (int what : new int[] {-1, 5, Integer.MIN_VALUE, Integer.MAX_VALUE}) {
            due("voice(4, " + what + ")", x.voice(4, what), UNKNOWN);
            for (int voice : wrong) {
                due("voice(" + voice + ", " + what + ")", x.voice(voice, what), UNKNOWN);
            }
        }
    }

    private void noneOnlyWithoutAnError() {
        String words = "NONE is returned only if no error applies.";
        KeyScanner x = new KeyScanner();
        book.promise(13);
        book.described(words);
        due("key(16, 3): no voice has it, but it is no key", x.key(16, 3), UNKNOWN);
        due("key(-1, 3)", x.key(-1, 3), UNKNOWN);
        book.promise(14);
        book.described(words);
        due("voice(4, 1): not sounding, but no voice", x.voice(4, 1), UNKNOWN);
        due("voice(0, 5): free, but no property", x.voice(0, 5), BAD);
        due("voice(-1, 2)", x.voice(-1, 2), UNKNOWN);
        book.promise(16);
        book.described(words);
        due("log(-1, 0): an empty log", x.log(-1, 0), BAD);
        due("log(0, 3)", x.log(0, 3), BAD);
        due("log(16, -1): no such entry, no such property", x.log(16, -1), BAD);
        due("log(-1, 3)", x.log(-1, 3), BAD);
        book.promise(21);
        book.described(words);
        x.setKey(0, 2);
        x.tick(1);
        due("restAfter(0): keys pressed", x.restAfter(0), BAD);
        due("restAfter(1001): keys pressed", x.restAfter(1001), BAD);
        due("restAfter(1000): keys pressed", x.restAfter(1000), NONE);
    }

    private void errorsChangeNothing() {
        String words = "A call that reports an error or NONE changes nothing.";
        open(2, words);
        Twins.refuses(book, "reset(2, 9)", BAD, x -> x.reset(2, 9));
        Twins.refuses(book, "reset(0, 4)", BAD, x -> x.reset(0, 4));
        open(6, words);
        Twins.refuses(book, "setSlope(65)", BAD, x -> x.setSlope(65));
        open(7, words);
        Twins.refuses(book, "setVoices(1, 3)", BAD, x -> x.setVoices(1, 3));
        Twins.refuses(book, "setVoices(9, 0)", BAD, x -> x.setVoices(9, 0));
        open(8, words);
        Twins.refuses(book, "setKey(8, 0)", UNKNOWN, x -> x.setKey(8, 0));
        Twins.refuses(book, "setKey(0, 3)", BAD, x -> x.setKey(0, 3));
        open(12, words);
        Twins.refuses(book, "tick(1001)", BAD, x -> x.tick(1001));
        open(13, words);
        Twins.refuses(book, "key(8, 1)", UNKNOWN, x -> x.key(8, 1));
        Twins.refuses(book, "key(7, 8)", BAD, x -> x.key(7, 8));
        Twins.refuses(book, "key(7, 3)", NONE, x -> x.key(7, 3));
        open(14, words);
        Twins.refuses(book, "voice(3, 1)", UNKNOWN, x -> x.voice(3, 1));
        Twins.refuses(book, "voice(2, 5)", BAD, x -> x.voice(2, 5));
        due("NONE of a free voice", freeVoiceAsked(), NONE);
        open(15, words);
        Twins.refuses(book, "count(12)", BAD, x -> x.count(12));
        open(16, words);
        Twins.refuses(book, "log(-1, 0)", BAD, x -> x.log(-1, 0));
        Twins.refuses(book, "log(16, 0)", NONE, x -> x.log(16, 0));
        open(17, words);
        Twins.refuses(book, "velocity(1001)", BAD, x -> x.velocity(1001));
        open(18, words);
        KeyScanner x = new KeyScanner();
        due("nextTaken()", x.nextTaken(), NONE);
        book.alike("nextTaken() with free voices", x, new KeyScanner());
        open(19, words);
        Twins.refuses(book, "connected(2)", BAD, y -> y.connected(2));
        open(20, words);
        KeyScanner z = Twins.busy(1);
        due("worstKey()", z.worstKey(), NONE);
        book.alike("worstKey() without ghosts", z, Twins.busy(1));
        open(21, words);
        Twins.refuses(book, "restAfter(1001)", BAD, y -> y.restAfter(1001));
        Twins.refuses(book, "restAfter(9)", NONE, y -> y.restAfter(9));
    }

    private void open(int promise, String words) {
        book.promise(promise);
        book.described(words);
    }

    private int freeVoiceAsked() {
        KeyScanner x = new KeyScanner();
        int answer = x.voice(3, 1);
        book.alike("voice(3, 1), free", x, new KeyScanner());
        return answer;
    }

    private void aPromiseEach() {
        book.promise(1);
        book.described("The constructor and the methods follow, a promise each: the signature, then"
            + " what it does.");
        due("constructors", KeyScanner.class.getConstructors().length, 1);
        due("methods, besides those of every object",
            KeyScanner.class.getMethods().length - Object.class.getMethods().length, 20);
    }
}
