import java.io.IOException;
import java.nio.file.Files;
import java.nio.file.Path;
import java.util.LinkedHashMap;
import java.util.Map;

/**
 * The document, sentence by sentence: a test opens the sentence that it holds, in the document's
 * own words, and checks answers. In the end every word of the description and of the promises
 * must have been opened, so that no sentence is left without a test.
 */
final class Book {
    private static final Path DOCUMENT = Path.of("../shared/DOC.md");

    /** One heading's text; what has been opened is marked. */
    private static final class Part {
        final StringBuilder text = new StringBuilder();
        boolean[] opened;
    }

    private final Map<String, Part> parts = new LinkedHashMap<>();
    private int promise = 0;
    private String sentence = null;
    private int checksOfSentence = 0;
    private int sentences = 0;
    private int checks = 0;
    private int wrong = 0;

    Book() throws IOException {
        Part part = new Part();
        boolean code = false;
        for (String line : Files.readAllLines(DOCUMENT)) {
            if (line.startsWith("```")) {
                code = !code;
            } else if (line.startsWith("## ")) {
                part = new Part();
                parts.put(line.substring(3).replaceAll(":.*", ""), part);
            } else if (!code && !isNoSentence(line)) {
                String bare = line.trim().replaceAll("^(- |[A-Z][a-z]+\\. )", "");
                part.text.append(part.text.length() == 0 ? "" : " ").append(bare);
            }
        }
        for (Part each : parts.values()) {
            each.opened = new boolean[each.text.length()];
        }
    }

    /** Signatures (FaceTest looks after them) and the headings of groups of promises. */
    private static boolean isNoSentence(String line) {
        return line.isBlank() || line.startsWith("---- ") || line.matches("`.*`");
    }

    /** The promise that the next sentences belong to. */
    void promise(int number) {
        promise = number;
    }

    /** Opens a sentence of the promise's own part. */
    void says(String words) {
        open("Promise " + promise, "Promise " + promise, words);
    }

    /** Opens a sentence of the description that the promise rests upon. */
    void described(String words) {
        open("Description", "Promise " + promise + ", Description", words);
    }

    /** Opens a sentence of the document's head that the promise rests upon. */
    void head(String words) {
        open("What it is", "Promise " + promise + ", What it is", words);
    }

    private void open(String heading, String shown, String words) {
        close();
        sentences++;
        sentence = shown + ": \"" + words + "\"";
        checksOfSentence = 0;
        Part part = parts.get(heading);
        int at = part == null ? -1 : part.text.indexOf(words);
        if (at < 0) {
            fault("the document has no such words");
            return;
        }
        for (int i = at; i < at + words.length(); i++) {
            part.opened[i] = true;
        }
    }

    private void close() {
        if (sentence != null) {
            if (checksOfSentence == 0) {
                fault("has no check");
            }
            System.out.println(sentence + " - " + checksOfSentence + " checks");
        }
        sentence = null;
    }

    void due(String call, long got, long want) {
        due(call, Long.toString(got), Long.toString(want));
    }

    void due(String call, String got, String want) {
        checks++;
        checksOfSentence++;
        if (!got.equals(want)) {
            fault(call + "\n  answered " + got + "\n  due is   " + want);
        }
    }

    private void fault(String what) {
        wrong++;
        System.out.println("WRONG: " + sentence + ": " + what);
    }

    /** Whether two objects tell the same of themselves and go on alike; see Twins. */
    void alike(String call, KeyScanner got, KeyScanner want) {
        due(call, Twins.tell(got), Twins.tell(want));
    }

    void end() {
        close();
        for (Map.Entry<String, Part> each : parts.entrySet()) {
            if (each.getKey().matches("Description|Promise \\d+")) {
                reportUnopened(each.getKey(), each.getValue());
            }
        }
        System.out.println("SentencesTest: " + sentences + " sentences, " + checks + " checks, "
            + wrong + " wrong");
        if (wrong != 0) {
            System.exit(1);
        }
    }

    private void reportUnopened(String heading, Part part) {
        StringBuilder left = new StringBuilder();
        for (int i = 0; i < part.opened.length; i++) {
            left.append(part.opened[i] ? '\n' : part.text.charAt(i));
        }
        for (String words : left.toString().split("\n+")) {
            if (words.matches(".*\\w.*")) {
                sentence = heading;
                fault("no test opens: " + words);
            }
        }
    }
}
