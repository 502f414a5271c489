import java.io.IOException;
import java.lang.reflect.Method;
import java.lang.reflect.Modifier;
import java.nio.file.Files;
import java.nio.file.Path;
import java.util.ArrayList;
import java.util.List;
import java.util.regex.Matcher;
import java.util.regex.Pattern;

/**
 * README.md: its examples give the answers that stand behind the calls, and its tables name every
 * call and constant; run from the project's folder.
 */
public final class ReadmeTest {
    private static final Due CHECK = new Due("ReadmeTest");
    private static final Pattern CALL =
        Pattern.compile("scanner\\.(\\w+)\\((.*)\\);\\s*// (-?\\d+)( .*)?");

    private ReadmeTest() {
    }

    public static void main(String[] args) throws IOException, ReflectiveOperationException {
        List<String> lines = Files.readAllLines(Path.of("README.md"));
        examples(lines);
        calls(lines);
        constants(lines);
        CHECK.end();
    }

    private static void examples(List<String> lines) throws ReflectiveOperationException {
        KeyScanner scanner = null;
        int answers = 0;
        boolean code = false;
        for (String line : lines) {
            if (line.startsWith("```")) {
                code = !code;
            } else if (code && line.equals("KeyScanner scanner = new KeyScanner();")) {
                scanner = new KeyScanner();
            } else if (code) {
                example(scanner, line);
                answers++;
            }
        }
        CHECK.due("there are examples", answers > 0 ? 1 : 0, 1);
    }

    private static void example(KeyScanner scanner, String line)
            throws ReflectiveOperationException {
        Matcher call = CALL.matcher(line);
        boolean known = call.matches() && scanner != null;
        CHECK.due("an example's line: " + line, known ? 1 : 0, 1);
        if (!known) {
            return;
        }
        List<Object> arguments = new ArrayList<>();
        for (String each : call.group(2).isEmpty() ? new String[0] : call.group(2).split(", ")) {
            if (each.matches("true|false")) {
                arguments.add(Boolean.valueOf(each));
            } else {
                arguments.add(Integer.valueOf(each));
            }
        }
        Object answer = method(call.group(1)).invoke(scanner, arguments.toArray());
        CHECK.due(line, (Integer) answer, Long.parseLong(call.group(3)));
    }

    private static Method method(String name) throws NoSuchMethodException {
        for (Method each : KeyScanner.class.getDeclaredMethods()) {
            if (each.getName().equals(name) && Modifier.isPublic(each.getModifiers())) {
                return each;
            }
        }
        throw new NoSuchMethodException(name);
    }

    /** Each promise's signature has a row of its own, with its promise and all that it reports. */
    private static void calls(List<String> readme) throws IOException {
        int promise = 0;
        String row = "";
        String returned = "";
        for (String line : Files.readAllLines(Path.of("../shared/DOC.md"))) {
            if (line.startsWith("## ")) {
                reports(row, returned);
                returned = "";
                promise += line.startsWith("## Promise ") ? 1 : 0;
            } else if (promise > 0 && line.matches("`.*`")) {
                String call = line.substring(1, line.length() - 1).replaceFirst("^int ", "");
                row = row(readme, "`" + (promise == 1 ? "new " : "") + call + "` (P" + promise + ")");
            } else if (line.startsWith("Returns ")) {
                // A promise may begin with this word, too: its last such line is the @return line.
                returned = line;
            }
        }
        CHECK.due("promises", promise, 21);
    }

    private static void reports(String row, String returned) {
        for (String error : new String[] {"UNKNOWN", "BAD_VALUE", "NONE"}) {
            CHECK.due(error + " in " + row, row.contains("`" + error + "`") ? 1 : 0,
                returned.contains(error) ? 1 : 0);
        }
    }

    /** The table's row that begins with this cell. */
    private static String row(List<String> readme, String cell) {
        for (String line : readme) {
            if (line.startsWith("| " + cell + " |")) {
                return line;
            }
        }
        CHECK.due("rows that begin with " + cell, 0, 1);
        return "";
    }

    private static void constants(List<String> readme) {
        row(readme, "`UNKNOWN` | " + KeyScanner.UNKNOWN);
        row(readme, "`BAD_VALUE` | " + KeyScanner.BAD_VALUE);
        row(readme, "`NONE` | " + KeyScanner.NONE);
    }
}
