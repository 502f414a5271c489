import java.io.IOException;
import java.lang.reflect.Field;
import java.lang.reflect.Method;
import java.lang.reflect.Modifier;
import java.nio.file.Files;
import java.nio.file.Path;
import java.util.Set;
import java.util.TreeSet;

/**
 * The class shows the document's face and no more (LANGUAGE.md, rules 1 and 5); run from the
 * project's folder.
 */
public final class FaceTest {
    private static final Due CHECK = new Due("FaceTest");
    private static final String[] METHODS = {
        "int reset(int,int)", "int setDiodes(boolean)", "int setBlocking(boolean)",
        "int setLateRelease(boolean)", "int setSlope(int)", "int setVoices(int,int)",
        "int setKey(int,int)", "int liftAll()", "int sustain(boolean)", "int sostenuto(boolean)",
        "int tick(int)", "int key(int,int)", "int voice(int,int)", "int count(int)",
        "int log(int,int)", "int velocity(int)", "int nextTaken()", "int connected(int)",
        "int worstKey()", "int restAfter(int)"};

    private FaceTest() {
    }

    public static void main(String[] args) throws IOException {
        documentsFace();
        constants();
        methods();
        classesInside();
        CHECK.end();
    }

    private static void is(String what, boolean right) {
        CHECK.due(what, right ? 1 : 0, 1);
    }

    /** The list above is the document's, in its face as in the promises. */
    private static void documentsFace() throws IOException {
        Set<String> face = new TreeSet<>();
        Set<String> promises = new TreeSet<>();
        for (String line : Files.readAllLines(Path.of("../shared/DOC.md"))) {
            String bare = line.replaceAll(" \\w+(?=[,)])", "").replace(", ", ",");
            if (bare.matches("    public int \\w+\\(.*\\);")) {
                face.add(bare.substring(11, bare.length() - 1));
            } else if (bare.matches("`int \\w+\\(.*\\)`")) {
                promises.add(bare.substring(1, bare.length() - 1));
            }
        }
        is("the document's face is " + face, face.equals(Set.of(METHODS)));
        is("the promises' signatures are " + promises, promises.equals(Set.of(METHODS)));
    }

    private static void constants() {
        CHECK.due("UNKNOWN", KeyScanner.UNKNOWN, -1);
        CHECK.due("BAD_VALUE", KeyScanner.BAD_VALUE, -2);
        CHECK.due("NONE", KeyScanner.NONE, -3);
        Set<String> shown = new TreeSet<>();
        for (Field field : KeyScanner.class.getDeclaredFields()) {
            int how = field.getModifiers();
            if (!Modifier.isPrivate(how)) {
                is(field + " is a public constant", Modifier.isPublic(how)
                    && Modifier.isStatic(how) && Modifier.isFinal(how));
                shown.add(field.getName());
            }
            is(field + " is final where static", Modifier.isFinal(how) || !Modifier.isStatic(how));
        }
        is("the constants are " + shown, shown.equals(Set.of("UNKNOWN", "BAD_VALUE", "NONE")));
    }

    private static void methods() {
        is("public and final", Modifier.isPublic(KeyScanner.class.getModifiers())
            && Modifier.isFinal(KeyScanner.class.getModifiers()));
        CHECK.due("constructors", KeyScanner.class.getDeclaredConstructors().length, 1);
        CHECK.due("public ones", KeyScanner.class.getConstructors().length, 1);
        CHECK.due("parameters", KeyScanner.class.getConstructors()[0].getParameterCount(), 0);
        Set<String> due = new TreeSet<>(Set.of(METHODS));
        Set<String> names = new TreeSet<>();
        for (String text : METHODS) {
            names.add(text.substring(4, text.indexOf('(')));
        }
        Set<String> shown = new TreeSet<>();
        for (Method method : KeyScanner.class.getDeclaredMethods()) {
            if (Modifier.isPrivate(method.getModifiers())) {
                is("private " + method.getName(), !names.contains(method.getName()));
            } else {
                is(method + " is public", Modifier.isPublic(method.getModifiers()));
                shown.add(signature(method));
            }
        }
        is("the methods are " + shown, shown.equals(due));
    }

    private static String signature(Method method) {
        StringBuilder text = new StringBuilder();
        for (Class<?> type : method.getParameterTypes()) {
            text.append(text.length() == 0 ? "" : ",").append(type);
        }
        return method.getReturnType() + " " + method.getName() + "(" + text + ")";
    }

    private static void classesInside() {
        Class<?>[] inside = KeyScanner.class.getDeclaredClasses();
        is("at most twelve classes", inside.length <= 12);
        for (Class<?> kind : inside) {
            is(kind + " is static", Modifier.isStatic(kind.getModifiers()));
            is(kind + " is hidden", !Modifier.isPublic(kind.getModifiers())
                && !Modifier.isProtected(kind.getModifiers()));
            for (Field field : kind.getDeclaredFields()) {
                int how = field.getModifiers();
                is(field + " is no static state",
                    !Modifier.isStatic(how) || Modifier.isFinal(how));
            }
        }
    }
}
