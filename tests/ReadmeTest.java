import java.lang.reflect.Method;
import java.nio.file.Files;
import java.nio.file.Path;
import java.util.regex.Matcher;
import java.util.regex.Pattern;

/** The example of README.md: each of its calls answers the number that stands behind it. */
public final class ReadmeTest {
    private static final Pattern CALL = Pattern.compile("x\\.(\\w+)\\(([^)]*)\\); +// (-?\\d+): .*");
    /** The groups into which the document's interface parts the calls. */
    private static final String[] GROUPS = {"// the ice, men, logs", "// rows", "// ways", "// stories, home",
        "// committees", "// looks", "// acts, tapes"};

    public static void main(String[] args) throws Exception {
        String readme = Files.readString(Path.of("README.md"));
        String example = between(readme, "```java\n", "```");
        for (String group : GROUPS) {
            Due.due("the example has " + group, example.contains("\n" + group) ? 1 : 0, 1);
        }
        PoleLogs x = new PoleLogs();
        for (String line : example.split("\n")) {
            if (line.startsWith("x.")) {
                answer(x, line);
            }
        }
        Due.due("README.md says how to run the tests", between(readme, "## Tests", "##").contains(".ci/run") ? 1 : 0, 1);
        Due.end();
    }

    private static String between(String text, String from, String to) {
        int at = text.indexOf(from);
        if (at < 0) {
            return "";
        }
        int end = text.indexOf(to, at + from.length());
        return text.substring(at + from.length(), end < 0 ? text.length() : end);
    }

    private static void answer(PoleLogs x, String line) throws Exception {
        Matcher call = CALL.matcher(line);
        boolean read = call.matches();
        Due.due("'" + line + "' is a call with its answer", read ? 1 : 0, 1);
        if (!read) {
            return;
        }
        String[] words = call.group(2).split(", ");
        Method method = methodNamed(call.group(1), words.length);
        Due.due("'" + line + "' is a call of the face", method != null ? 1 : 0, 1);
        if (method == null) {
            return;
        }
        Object[] numbers = new Object[words.length];
        for (int i = 0; i < words.length; i++) {
            boolean truth = method.getParameterTypes()[i] == boolean.class;
            numbers[i] = truth ? (Object) Boolean.valueOf(words[i]) : Integer.decode(words[i]);
        }
        Due.due("README.md: " + line, (Integer) method.invoke(x, numbers), Integer.parseInt(call.group(3)));
    }

    private static Method methodNamed(String name, int parameters) {
        for (Method method : PoleLogs.class.getMethods()) {
            if (method.getName().equals(name) && method.getParameterCount() == parameters) {
                return method;
            }
        }
        return null;
    }
}
