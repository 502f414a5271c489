import java.io.IOException;
import java.nio.file.Files;
import java.nio.file.Path;
import java.util.regex.Matcher;
import java.util.regex.Pattern;

/** Words and signs that LANGUAGE.md keeps out of the program; run from the project's folder. */
public final class LanguageTest {
    private static final Due CHECK = new Due("LanguageTest");
    private static final String[] BANNED = {
        "\\b(throw|throws|try|catch|finally|synchronized|assert|import|package|volatile)\\b",
        "\\b(Object|System\\.(?!arraycopy)\\w+|Random|Thread|Exception|\\w+Exception)\\b",
        "\\b(equals|hashCode|toString|instanceof)\\b",
        "->", "::", "\\w+Exact\\b", "[^\\x00-\\x7f]"};

    private LanguageTest() {
    }

    public static void main(String[] args) throws IOException {
        String text = Files.readString(Path.of("src/main/java/KeyScanner.java"));
        String bare = text.replaceAll("(?s)/\\*.*?\\*/", "").replaceAll("//[^\n]*", "");
        for (String banned : BANNED) {
            Matcher matcher = Pattern.compile(banned).matcher(bare);
            CHECK.due("found " + banned, matcher.find() ? 1 : 0, 0);
        }
        CHECK.due("non-ASCII", text.chars().anyMatch(c -> c > 126) ? 1 : 0, 0);
        // Nothing may be made while the calls go on: every 'new' stands in a field's initialiser.
        for (String line : bare.split("\n")) {
            if (line.contains("new ")) {
                CHECK.due("made in a field: " + line.trim(),
                    line.matches("\\s+(private )?final \\S+ \\w+ = new .*;") ? 1 : 0, 1);
            }
        }
        CHECK.end();
    }
}
