import java.io.IOException;
import java.nio.file.Files;
import java.nio.file.Path;
import java.util.ArrayList;
import java.util.LinkedHashMap;
import java.util.List;
import java.util.Map;
import java.util.Set;
import java.util.TreeSet;
import java.util.regex.Matcher;
import java.util.regex.Pattern;

/**
 * The rules of LANGUAGE.md that can be seen in the program's text (rule 1 is FaceTest's); run from
 * the project's folder. It is stricter than the rules where the program needs less than they give.
 */
public final class LanguageTest {
    private static final Due CHECK = new Due("LanguageTest");
    private static final String MEMBER = "^( {4}| {8})(?! )(?:(?:public|private|static|final) )*";
    private static final Pattern METHOD =
        Pattern.compile(MEMBER + "(?!class )[\\w\\[\\]]+ (\\w+)\\(([^)]*)\\) \\{$");
    private static final Pattern FIELD =
        Pattern.compile(MEMBER + "(?!return )([\\w\\[\\]]+) (\\w+)( = .*)?;$");
    private static final Pattern INSIDE =
        Pattern.compile("^ {4}private static final class (\\w+) \\{$");
    private static final Pattern CALL = Pattern.compile("\\b(\\w+)\\(");
    private static final Set<String> WORDS = Set.of("if", "for", "switch");
    private static final Set<String> LIBRARY =
        Set.of("Integer.bitCount", "Math.floorMod", "Math.max", "Math.min");
    private static final String[][] BANNED = {
        {"2, 6", "->|::|\\b(enum|record|interface|abstract|extends|implements)\\b"},
        {"3", "\\b(double|float|Object|String|StringBuilder|List|ArrayList)\\b|<\\w+>"},
        {"3", "\\[\\]\\[\\]"},
        {"4", "\\b(import|package|java)\\b|\\w+Exact\\b"},
        {"4, 10", "[\"']|[^\\x00-\\x7e]"},
        {"5", "\\bstatic \\{"},
        {"6", "\\b(throw|throws|try|catch|finally|synchronized|assert|volatile|instanceof)\\b"},
        {"6", "\\b(equals|hashCode|toString|getClass|null)\\b"},
        {"9", "\\b(while|do)\\b"},
        {"13", "\\b(System|Random|Thread|Runtime|Files|Process)\\b"}};

    /** A method: all of one name together, as a call tells no more than the name. */
    private static final Map<String, Set<String>> CALLS = new LinkedHashMap<>();

    private LanguageTest() {
    }

    public static void main(String[] args) throws IOException {
        String text = Files.readString(Path.of("src/main/java/KeyScanner.java"));
        String bare = text.replaceAll("(?s)/\\*.*?\\*/", "").replaceAll("//[^\n]*", "");
        List<String> lines = List.of(bare.split("\n"));
        for (String[] banned : BANNED) {
            Matcher matcher = Pattern.compile(banned[1]).matcher(bare);
            none("R" + banned[0] + " found " + banned[1], matcher.find());
        }
        library(bare);
        fields(lines);
        loops(lines);
        madeInFields(lines);
        methods(lines);
        depth();
        CHECK.end();
    }

    private static void none(String what, boolean found) {
        CHECK.due(what, found ? 1 : 0, 0);
    }

    /** Rule 4: what is called on a name with a capital. */
    private static void library(String bare) {
        Matcher matcher = Pattern.compile("\\b[A-Z]\\w*\\.\\w+").matcher(bare);
        while (matcher.find()) {
            none("R4 " + matcher.group(), !LIBRARY.contains(matcher.group()));
        }
    }

    /** Rules 2, 5 and 11: the classes inside, static fields, and the number of fields. */
    private static void fields(List<String> lines) {
        Map<String, Integer> fields = new LinkedHashMap<>();
        String inside = "KeyScanner";
        for (String line : lines) {
            Matcher found = INSIDE.matcher(line);
            Matcher field = FIELD.matcher(line);
            if (found.matches()) {
                inside = found.group(1);
            } else if (line.equals("    }")) {
                inside = "KeyScanner";
            } else if (line.contains(" static ") && field.matches()) {
                none("R5 " + line.trim(), !line.contains(" static final ")
                    || !field.group(2).matches("int|long|boolean|char"));
            } else if (field.matches() && isMember(inside, field.group(1))) {
                fields.merge(inside, 1, Integer::sum);
            } else {
                none("R2 " + line, line.matches(".*\\bclass\\b.*") && !line.startsWith("public"));
            }
        }
        none("R11 classes " + fields, fields.size() > 12 || fields.size() < 2);
        for (Map.Entry<String, Integer> each : fields.entrySet()) {
            none("R11 fields of " + each, each.getValue() > 20);
        }
    }

    private static boolean isMember(String inside, String indent) {
        return (inside.equals("KeyScanner") ? 4 : 8) == indent.length();
    }

    /** Rule 9: each loop counts up to a bound. */
    private static void loops(List<String> lines) {
        String counting = "\\s+for \\(int (\\w+) = .+; \\1 <=? .+; \\1\\+\\+\\) \\{";
        for (String line : lines) {
            none("R9 " + line.trim(), line.matches(".*\\bfor\\b.*") && !line.matches(counting));
        }
    }

    /** Rule 12: nothing is made while the calls go on. */
    private static void madeInFields(List<String> lines) {
        String made = "\\s+(private )?final \\S+ \\w+ = new .*;";
        for (String line : lines) {
            none("R12 " + line.trim(), line.matches(".*\\bnew\\b.*") && !line.matches(made));
        }
    }

    /** Rule 11: the length of the methods and their parameters. */
    private static void methods(List<String> lines) {
        int found = 0;
        for (int i = 0; i < lines.size(); i++) {
            Matcher method = METHOD.matcher(lines.get(i));
            if (method.matches()) {
                int end = i + lines.subList(i, lines.size()).indexOf(method.group(1) + "}");
                none("R11 length of " + method.group(2), end <= i || end - i > 60);
                none("R11 parameters of " + method.group(2),
                    method.group(3).split(",").length > 7);
                Set<String> calls =
                    CALLS.computeIfAbsent(method.group(2), name -> new TreeSet<>());
                Matcher call = CALL.matcher(String.join("\n", lines.subList(i + 1, end)));
                while (call.find()) {
                    calls.add(call.group(1));
                }
                calls.removeAll(WORDS);
                found++;
            }
        }
        none("R11 methods found: " + found, found < 20);
    }

    /** Rules 8 and 11: no method calls itself, and calls go at most eight deep. */
    private static void depth() {
        for (String method : CALLS.keySet()) {
            List<String> deepest = deepest(method, new ArrayList<>());
            none("R8, R11 " + deepest, deepest.size() > 8);
        }
    }

    private static List<String> deepest(String method, List<String> above) {
        List<String> open = new ArrayList<>(above);
        open.add(method);
        List<String> deepest = open;
        none("R8 " + open, above.contains(method));
        if (open.size() <= 8 && CHECK.isRight()) {
            for (String call : CALLS.getOrDefault(method, Set.of())) {
                List<String> below = deepest(call, open);
                deepest = below.size() > deepest.size() ? below : deepest;
            }
        }
        return deepest;
    }
}
