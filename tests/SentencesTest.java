import java.lang.reflect.Method;
import java.nio.file.Files;
import java.nio.file.Path;
import java.util.TreeMap;
import java.util.regex.Matcher;
import java.util.regex.Pattern;

/** That the sentences the tests stand for are the document's, and that no sentence with an edge is left without a test. */
public final class SentencesTest {
    private static final Path DOC = Path.of("../shared/DOC.md");
    private static final Class<?>[] TESTS = {TermsIceRowsTest.class, TermsStoriesLawsTest.class, TermsLooksTapesTest.class,
        AnswersTest.class, PromiseLogsRowsTest.class, PromiseWaysLawsTest.class, PromiseActsTapesTest.class};
    /** Words by which a sentence of the Terms names an edge. */
    private static final Pattern EDGES = Pattern.compile("-?\\d+ \\.\\. -?\\d+|\\bcut\\b|at least|at most|at first|of several"
        + "|wrapping|modulo|within|no farther|\\(-\\d+\\)|-5|of DAY -1|-1 was|nothing|too early|below|above|\\bnone\\b"
        + "|\\bfirst\\b|in all\\b|\\bjust\\b|more MILES|\\bends\\b|no room|missing|behind DAY|greater|greatest|fewest|any number");

    private static final TreeMap<String, String> SECTIONS = new TreeMap<>();
    private static final TreeMap<String, boolean[]> SAID = new TreeMap<>();

    public static void main(String[] args) throws Exception {
        if (!Files.isReadable(DOC)) {
            System.out.println("no document at " + DOC + ": nothing to compare with");
            return;
        }
        for (String part : Files.readString(DOC).split("\n## ")) {
            String title = part.substring(0, part.indexOf('\n')).replaceAll(":.*", "").trim();
            String text = part.substring(part.indexOf('\n')).replaceAll("Ahead of the calls [^\n]*", "")
                .replaceAll("\\s+", " ");
            // a promise's words begin behind its head
            SECTIONS.put(title, title.startsWith("Promise") ? text.substring(text.indexOf("`: ") + 3) : text);
            SAID.put(title, new boolean[text.length()]);
        }
        for (Class<?> tests : TESTS) {
            for (Method test : Edge.testsOf(tests)) {
                markSaid(test);
            }
        }
        for (int promise = 1; promise <= 44; promise++) {
            everyWord("Promise " + promise);
        }
        everyEdge();
        Due.end();
    }

    private static void markSaid(Method test) {
        Says says = test.getAnnotation(Says.class);
        for (String words : says.value()) {
            String text = SECTIONS.getOrDefault(says.in(), "");
            int at = text.indexOf(words);
            Due.due("'" + words + "' stands in " + says.in(), at >= 0 ? 1 : 0, 1);
            if (!says.in().startsWith("Promise")) {
                Due.due("'" + words + "' stands there once", text.indexOf(words, at + 1), -1);
            }
            for (int i = at; at >= 0 && i < at + words.length(); i++) {
                SAID.get(says.in())[i] = true;
            }
        }
    }

    private static void everyWord(String title) {
        Matcher words = Pattern.compile("[\\w-]+").matcher(SECTIONS.getOrDefault(title, ""));
        Due.due(title + " has words", words.find() ? 1 : 0, 1);
        words.reset();
        while (words.find()) {
            Due.due(title + ": a test for '" + words.group() + "' at " + words.start(), said(title, words), 1);
        }
    }

    private static void everyEdge() {
        String terms = SECTIONS.getOrDefault("Terms", "");
        Matcher edges = EDGES.matcher(terms);
        while (edges.find()) {
            String around = terms.substring(Math.max(0, edges.start() - 40), Math.min(terms.length(), edges.end() + 20));
            Due.due("Terms: a test for '" + edges.group() + "' in '" + around + "'", said("Terms", edges), 1);
        }
    }

    private static int said(String title, Matcher found) {
        for (int i = found.start(); i < found.end(); i++) {
            if (!SAID.get(title)[i]) {
                return 0;
            }
        }
        return 1;
    }
}
