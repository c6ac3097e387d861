import java.lang.reflect.InvocationTargetException;
import java.lang.reflect.Method;
import java.util.ArrayList;
import java.util.Comparator;
import java.util.List;
import java.util.function.IntUnaryOperator;

/** What the tests of single sentences share. */
abstract class Edge {
    static final int NONE = -1, BAD = -2, STATE = -3, FULL = -4, ANY = -5;
    static final int NO = -1000000000;
    static final int NOTHING = -11, CAST = -12, PLACE = -13, SIZE = -14;
    static final int MAX = Integer.MAX_VALUE, MIN = Integer.MIN_VALUE;
    static final int BYTES = 0, SHORTS = 1, INTS = 2, FLOATS = 3, BOOLEANS = 4;

    static void due(String call, long got, long want) {
        Due.due(call, got, want);
    }

    /** Every test of a class, each of which must ask for something. */
    static void runAll(Class<?> tests) throws Exception {
        for (Method test : testsOf(tests)) {
            int before = Due.asked();
            try {
                test.invoke(null);
            } catch (InvocationTargetException e) {
                e.getCause().printStackTrace(System.out);
                due(test.getName() + " ended by itself", 0, 1);
            }
            due(test.getName() + " asked for something", Due.asked() > before ? 1 : 0, 1);
        }
        Due.end();
    }

    static List<Method> testsOf(Class<?> tests) {
        List<Method> found = new ArrayList<>();
        for (Method m : tests.getDeclaredMethods()) {
            if (m.isAnnotationPresent(Says.class)) {
                found.add(m);
            }
        }
        found.sort(Comparator.comparing(Method::getName));
        return found;
    }

    /** Least and most are taken; what is just beside them, or far off, or alike in its lowest bits, is refused. */
    static void bounds(String call, int least, int most, int refusal, int taken, IntUnaryOperator asked) {
        tooSmall(call, least, refusal, asked);
        tooLarge(call, most, refusal, asked);
        due(call + " of " + least, asked.applyAsInt(least), taken);
        due(call + " of " + most, asked.applyAsInt(most), taken);
    }

    static void tooSmall(String call, int least, int refusal, IntUnaryOperator asked) {
        for (int v : new int[] {least - 1, least - 256, least - 65536, MIN}) {
            due(call + " of " + v, asked.applyAsInt(v), refusal);
        }
    }

    static void tooLarge(String call, int most, int refusal, IntUnaryOperator asked) {
        for (int v : new int[] {most + 1, most + 256, most + 65536, MAX}) {
            due(call + " of " + v, asked.applyAsInt(v), refusal);
        }
    }

    static PoleLogs fresh() {
        return new PoleLogs();
    }

    static PoleLogs withMan() {
        PoleLogs x = fresh();
        x.man(1, 0);
        return x;
    }

    static PoleLogs withClaim(int px, int py, int day) {
        PoleLogs x = fresh();
        x.claim(0, px, py, day);
        return x;
    }

    static PoleLogs withStart(int px, int py) {
        PoleLogs x = fresh();
        x.start(0, px, py);
        return x;
    }

    static PoleLogs withTape(int sort, int... items) {
        PoleLogs x = fresh();
        fill(x, 0, sort, items);
        return x;
    }

    static void fill(PoleLogs x, int tape, int sort, int... items) {
        x.tape(tape, sort, items.length);
        for (int i = 0; i < items.length; i++) {
            x.item(tape, i, items[i]);
        }
    }

    static void fillRows(PoleLogs x, int rows) {
        x.tape(5, SHORTS, 40);
        for (int left = rows - x.count(2); left > 0; left -= 40) {
            x.torn(1, 0, 5, 0, Math.min(40, left), 0);
        }
    }

    static void feed(PoleLogs x, String text) {
        for (int i = 0; i < text.length(); i++) {
            x.feed(text.charAt(i), 1);
        }
    }

    static int law(PoleLogs x, int committee, int year, String text) {
        feed(x, text);
        return x.law(committee, year);
    }

    /** The FAULT of a text; -1: it is a LAW. */
    static int fault(String text) {
        int answer = law(fresh(), 0, 0, text);
        return answer == 0 ? -1 : -10 - answer;
    }

    /** What a text says of LOG 0 by all that is told. */
    static int holds(PoleLogs x, String text) {
        law(x, 0, 99, text);
        return x.says(0, 0, 99);
    }

    static int place(int px, int py) {
        return 1000 * (px + 400) + py + 400;
    }

    /** Whether a STORY of LOG 0 has the PLACE on the DAY: a WORD of it, to the mile, is not FALSE then. */
    static int isAt(PoleLogs x, int story, int n, int day, int px, int py) {
        int before = x.falses(0, story, n, 99);
        x.man(1, 0);
        x.word(0, day, 0, px, py, 0);
        return 1 - (x.falses(0, story, n, 99) - before);
    }
}
