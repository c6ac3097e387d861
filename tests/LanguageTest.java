import java.lang.reflect.Constructor;
import java.lang.reflect.Field;
import java.lang.reflect.Method;
import java.lang.reflect.Modifier;
import java.nio.file.Files;
import java.nio.file.Path;
import java.util.Arrays;
import java.util.Set;
import java.util.TreeSet;
import java.util.regex.Pattern;

/** The public face of the document, and what LANGUAGE.md rules out as far as it can be seen in the text. */
public final class LanguageTest {
    private static final String[] FACE = {
        "pass 1", "drift 3", "ice 3", "sun 2", "man 2", "party 4", "start 3", "claim 4", "march 5", "height 5",
        "compass 3", "picture 5", "word 6", "torn 6", "of 2", "fits 3", "place 3", "can 2", "beyond 2", "latitude 2",
        "quarrel 1", "home 1", "needs 2", "held 3", "falses 4", "least 3", "misprint 2", "made 2", "feed 2", "law 2",
        "says 3", "look 1", "worth 2", "next 1", "worst 2", "act 3", "trace 1", "taken 2", "count 1", "tape 3",
        "item 3", "read 2", "shift 5"};
    private static final String[] RULED_OUT = {
        "\\bthrow\\b", "\\bthrows\\b", "\\btry\\b", "\\bcatch\\b", "\\bsynchronized\\b", "\\bassert\\b", "->", "::",
        "\\bprotected\\b", "\\bpackage\\b", "\\w+Exact\\b", "\\bsealed\\b", "\\bpermits\\b", "System\\.(?!arraycopy)",
        "Arrays\\.(?!copyOf|copyOfRange|fill)", "import (?!java\\.util\\.(Arrays|ArrayList|List|Iterator);)",
        "@", "[^\\x00-\\x7f]", "\\bnative\\b", "\\bThread\\b", "static \\{", "\\bvolatile\\b", "\\bhashCode\\b"};

    public static void main(String[] args) throws Exception {
        face();
        text();
        Due.end();
    }

    private static void face() {
        Set<String> methods = new TreeSet<>();
        Set<String> hidden = new TreeSet<>();
        for (Method m : PoleLogs.class.getDeclaredMethods()) {
            if (Modifier.isPublic(m.getModifiers())) {
                methods.add(m.getName() + " " + m.getParameterCount());
                Due.due(m.getName() + " answers an int", m.getReturnType() == int.class ? 1 : 0, 1);
            } else {
                hidden.add(m.getName());
                Due.due(m.getName() + " is private", Modifier.isPrivate(m.getModifiers()) ? 1 : 0, 1);
            }
            Due.due(m.getName() + " has at most seven parameters", m.getParameterCount() <= 7 ? 1 : 0, 1);
        }
        Due.due("the face's methods", methods.equals(new TreeSet<>(Arrays.asList(FACE))) ? 1 : 0, 1);
        for (String name : FACE) {
            Due.due("a private " + name, hidden.contains(name.substring(0, name.indexOf(' '))) ? 1 : 0, 0);
        }
        Set<String> fields = new TreeSet<>();
        for (Field f : PoleLogs.class.getDeclaredFields()) {
            if (Modifier.isPublic(f.getModifiers())) {
                fields.add(f.getName());
            } else {
                Due.due(f.getName() + " is private", Modifier.isPrivate(f.getModifiers()) ? 1 : 0, 1);
            }
            if (Modifier.isStatic(f.getModifiers())) {
                Due.due(f.getName() + " is final", Modifier.isFinal(f.getModifiers()) ? 1 : 0, 1);
            }
        }
        Due.due("the face's constants", fields.equals(Set.of("NONE", "BAD", "STATE", "FULL", "NO")) ? 1 : 0, 1);
        Constructor<?>[] made = PoleLogs.class.getDeclaredConstructors();
        Due.due("constructors", made.length, 1);
        Due.due("its parameters", made[0].getParameterCount(), 0);
        Due.due("final", Modifier.isFinal(PoleLogs.class.getModifiers()) ? 1 : 0, 1);
        for (Class<?> inside : PoleLogs.class.getDeclaredClasses()) {
            Due.due(inside + " is static", Modifier.isStatic(inside.getModifiers()) ? 1 : 0, 1);
            Due.due(inside + " is not public", Modifier.isPublic(inside.getModifiers()) ? 1 : 0, 0);
            Due.due(inside + " has some twenty fields", inside.getDeclaredFields().length <= 20 ? 1 : 0, 1);
        }
        Due.due("some twelve classes", PoleLogs.class.getDeclaredClasses().length <= 11 ? 1 : 0, 1);
    }

    private static void text() throws Exception {
        String all = Files.readString(Path.of("src/main/java/PoleLogs.java"));
        String code = all.replaceAll("(?s)/\\*.*?\\*/", "").replaceAll("//[^\n]*", "");
        for (String word : RULED_OUT) {
            Due.due("in the text: " + word, Pattern.compile(word).matcher(code).find() ? 1 : 0, 0);
        }
        int opened = 0;
        String[] lines = code.split("\n");
        for (int i = 0; i < lines.length; i++) {
            if (lines[i].matches("( {4}| {8})[a-z].*\\) \\{")) {
                opened = i;
            }
            if (lines[i].matches("( {4}| {8})\\}")) {
                Due.due("lines of the method at " + opened + " within sixty", i - opened <= 60 ? 1 : 0, 1);
                opened = i;
            }
        }
    }
}
