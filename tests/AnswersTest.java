import java.lang.reflect.Method;
import java.util.ArrayList;
import java.util.Arrays;
import java.util.List;
import java.util.TreeMap;

/** Answers: which refusal comes first, and that a refused call changes nothing. */
public final class AnswersTest extends Edge {
    private static final TreeMap<String, Method> CALLS = new TreeMap<>();

    public static void main(String[] args) throws Exception {
        for (Method m : PoleLogs.class.getDeclaredMethods()) {
            CALLS.put(m.getName(), m);
        }
        runAll(AnswersTest.class);
    }

    /** A call by its name; the first part is the answer that is due. */
    private static void refused(PoleLogs x, int want, String name, Object... args) throws Exception {
        due(name + Arrays.toString(args), (Integer) CALLS.get(name).invoke(x, args), want);
    }

    @Says("Answers: NONE (-1) no such number")
    static void none() {
        due("NONE", PoleLogs.NONE, -1);
        due("no such CELL", fresh().drift(64, 0, 0), -1);
        due("no such DAY", fresh().sun(200, 0), -1);
        due("no such ROW", fresh().fits(0, 0, 0), -1);
        due("no such LOOK", fresh().worth(0, 1), -1);
        due("no such body", fresh().trace(0), -1);
    }

    @Says("BAD (-2) a number is not as told")
    static void bad() {
        due("BAD", PoleLogs.BAD, -2);
        due("no YEARS", fresh().pass(0), -2);
        due("no PLACE", fresh().latitude(400, 0), -2);
        due("no set", fresh().next(0), -2);
    }

    @Says("STATE (-3) as told")
    static void state() {
        due("STATE", PoleLogs.STATE, -3);
        due("no CLAIM", fresh().least(0, 0, 0), -3);
        due("no LOOKS", fresh().next(1), -3);
    }

    @Says("FULL (-4)")
    static void full() {
        due("FULL", PoleLogs.FULL, -4);
        due("no room for a ROW", filled().compass(0, 0, 0), -4);
        due("no room for a byte", filled().feed(0, 1), -4);
    }

    @Says("`NO = -1000000000`: There is no such number.")
    static void no() {
        due("NO", PoleLogs.NO, -1000000000);
        due("of", fresh().of(0, 0), -1000000000);
        due("needs", fresh().needs(0, 0), -1000000000);
        due("read", fresh().read(0, 0), -1000000000);
    }

    @Says("the first that a call's words name.")
    static void firstRefusalOfIceAndRows() throws Exception {
        PoleLogs x = filled();
        refused(x, NONE, "drift", 64, 31, 31);
        refused(x, NONE, "ice", 64, 2, 99);
        refused(x, NONE, "ice", 0, 2, 99);
        refused(x, NONE, "sun", 200, 1501);
        refused(x, BAD, "man", 0, 0);
        refused(x, BAD, "man", 1, 10);
        refused(x, NONE, "party", 2, -1, 100, 10000);
        refused(x, NONE, "start", 2, 400, 400);
        refused(x, NONE, "claim", 2, 400, 400, 200);
        refused(x, BAD, "claim", 0, 400, 400, 200);
        refused(x, NONE, "march", 2, 0, 25, 61, 16);
        refused(x, NONE, "march", 0, 200, 25, 61, 16);
        refused(x, BAD, "march", 0, 0, 25, 1, 1);
        refused(x, BAD, "march", 0, 0, 1, 61, 1);
        refused(x, BAD, "march", 0, 0, 1, 1, 16);
        refused(x, STATE, "march", 0, 0, 1, 1, 1);
        refused(x, FULL, "march", 0, 1, 1, 1, 1);
        refused(x, NONE, "height", 2, 0, -1, 61, true);
        refused(x, NONE, "height", 0, 200, -1, 61, false);
        refused(x, BAD, "height", 0, 0, -1, 0, false);
        refused(x, BAD, "height", 0, 0, 0, 61, true);
        refused(x, NONE, "compass", 2, 0, 16);
        refused(x, NONE, "compass", 0, -1, 16);
        refused(x, BAD, "compass", 0, 0, 16);
        refused(x, NONE, "picture", 2, 0, 0, 0, 10);
        refused(x, NONE, "picture", 0, -1, 0, 0, 10);
        refused(x, BAD, "picture", 0, 0, 0, 1, 0);
        refused(x, BAD, "picture", 0, 0, 1, 0, 0);
        refused(x, BAD, "picture", 0, 0, 1, 1, 10);
        refused(x, NONE, "word", 2, 0, 0, 400, 400, 201);
        refused(x, NONE, "word", 0, -1, 0, 400, 400, 201);
        refused(x, NONE, "word", 0, 0, 12, 400, 400, 201);
        refused(x, BAD, "word", 0, 0, 0, 400, 0, 0);
        refused(x, BAD, "word", 0, 0, 0, 0, 0, 201);
        refused(x, NONE, "torn", 2, 0, 0, 0, 0, 61);
        refused(x, NONE, "torn", 0, 200, 0, 0, 0, 61);
        refused(x, NONE, "torn", 0, 0, 6, 0, 0, 61);
        refused(x, BAD, "torn", 0, 0, 0, 0, 0, 0);
        refused(x, BAD, "torn", 0, 0, 0, 0, 1, 61);
        refused(x, CAST, "torn", 0, 0, 0, 99, 1, 0);
        refused(x, NONE, "fits", 120, 400, 400);
    }

    @Says("the first that a call's words name.")
    static void firstRefusalOfWaysAndStories() throws Exception {
        PoleLogs x = filled();
        refused(x, NONE, "held", 2, 0, 0);
        refused(x, NONE, "held", 0, 6, 0);
        refused(x, BAD, "held", 0, 1, 0);
        refused(x, STATE, "held", 0, 1, 1);
        refused(x, STATE, "held", 0, 2, 10);
        x.claim(0, 0, 0, 0);
        refused(x, BAD, "held", 0, 1, 0);
        refused(x, NOTHING, "held", 0, 1, 1);
        refused(x, CAST, "held", 0, 2, 10);
        refused(x, PLACE, "held", 0, 0, 10);
        x.claim(0, 0, 0, -1);
        refused(x, NONE, "falses", 2, 0, 100, 0);
        refused(x, NONE, "falses", 0, 3, 100, 0);
        refused(x, NONE, "falses", 0, 0, 100, 100);
        refused(x, BAD, "falses", 0, 0, 100, 0);
        refused(x, BAD, "falses", 0, 1, 100, 0);
        refused(x, STATE, "falses", 0, 0, 99, 0);
        refused(x, NONE, "least", 2, 100, 0);
        refused(x, NONE, "least", 0, 100, 100);
        refused(x, BAD, "least", 0, 100, 0);
        refused(x, STATE, "least", 0, 99, 0);
        refused(x, NONE, "misprint", 200, 1501);
        refused(x, NONE, "made", 2, 0);
        refused(x, NONE, "made", 0, 2);
        refused(x, STATE, "made", 0, 1);
        refused(x, BAD, "feed", 0, 5);
        refused(x, NONE, "law", 6, 100);
        refused(x, BAD, "law", 0, 100);
        refused(x, FULL, "law", 0, 0);
        refused(x, NONE, "says", 6, 0, 0);
        refused(x, NONE, "says", 0, 2, 0);
        refused(x, NONE, "says", 0, 0, 100);
    }

    @Says("the first that a call's words name.")
    static void firstRefusalOfLooksAndTapes() throws Exception {
        PoleLogs x = filled();
        refused(x, BAD, "look", 4096);
        refused(x, NONE, "worth", 8, 0);
        refused(fresh(), BAD, "next", 0);
        refused(x, BAD, "taken", 120, 7);
        refused(x, NONE, "tape", 6, 5, -1);
        refused(x, NONE, "tape", 6, -1, 0);
        refused(x, BAD, "tape", 0, 5, -1);
        refused(x, NONE, "item", 6, -1, MAX);
        refused(x, NOTHING, "item", 1, -1, MAX);
        refused(x, PLACE, "item", 3, -1, MAX);
        refused(x, BAD, "item", 3, 0, MAX);
        refused(x, NONE, "shift", 6, -1, 1, -1, -1);
        refused(x, NONE, "shift", 1, -1, 6, -1, -1);
        refused(x, NOTHING, "shift", 1, -1, 0, -1, -1);
        refused(x, NOTHING, "shift", 0, -1, 1, -1, -1);
        refused(x, CAST, "shift", 0, -1, 2, -1, -1);
        refused(x, PLACE, "shift", 0, -1, 0, -1, -1);
    }

    /** Everything that can be full is; LOG 0 has a MARCH on DAY 0 and no CLAIM; TAPES 0 bytes, 2 and 5 shorts, 3 floats. */
    private static PoleLogs filled() {
        PoleLogs x = fresh();
        for (int i = 0; i < 12; i++) {
            x.man(i + 1, i % 10);
        }
        x.march(0, 0, 10, 20, 3);
        fillRows(x, 120);
        for (int i = 0; i < 12; i++) {
            x.feed('h' << 16 | '=' << 8 | '0' + i % 2, 3);
            x.law(i % 3, i);
        }
        for (int i = 0; i < 20; i++) {
            x.feed('k' << 24 | '>' << 16 | '3' << 8 | '|', 4);
        }
        for (int i = 0; i < 8; i++) {
            x.look(1 << i);
        }
        fill(x, 0, BYTES, 1, 2);
        fill(x, 2, SHORTS, 3, 4);
        fill(x, 3, FLOATS, 5, 6);
        return x;
    }

    /** A bit of everything, with room left. */
    private static PoleLogs some() {
        PoleLogs x = fresh();
        x.man(10, 4);
        x.man(5, 2);
        x.party(0, 3, 4, 250);
        x.party(1, 1, 2, 0);
        x.start(1, 10, 20);
        x.claim(0, 10, -20, 2);
        x.drift(12, 3, -2);
        x.drift(0, 1, 1);
        x.ice(12, 0, 5);
        x.ice(12, 1, 2);
        x.sun(2, 300);
        x.sun(0, 7);
        x.misprint(2, 310);
        x.misprint(0, 8);
        x.march(0, 0, 10, 30, 0);
        x.march(0, 1, 24, 60, 3);
        x.height(0, 2, 325, 0, false);
        x.height(0, 2, 400, 0, true);
        x.compass(0, 1, 3);
        x.picture(0, 2, 10, 100, 1);
        x.word(0, 2, 1, 0, -250, 30);
        x.pass(3);
        x.height(1, 5, 100, 2, false);
        fill(x, 0, SHORTS, 10, 20, -2);
        fill(x, 2, BYTES, 1, 2, 3);
        fill(x, 3, FLOATS, 5, 6);
        law(x, 0, 1, "h>0|m=1");
        feed(x, "c=");
        x.look(228);
        x.look(27);
        x.act(3, 2, 4);
        return x;
    }

    /** What can be seen of an object, in fewer than 400 calls; the last of them change it. */
    private static List<Integer> seen(PoleLogs x) {
        List<Integer> all = new ArrayList<>();
        for (int i = 0; i < 20; i++) {
            all.add(x.trace(i));
        }
        for (int what = 0; what < 8; what++) {
            all.add(x.count(what));
        }
        int rows = x.count(2);
        for (int row = 0; row < rows; row += rows > 30 ? 7 : 1) {
            for (int what = 0; what < 8; what++) {
                all.add(x.of(row, what));
            }
        }
        for (int log = 0; log < 2; log++) {
            seenOfLog(x, log, all);
        }
        for (int tape = 0; tape < 6; tape++) {
            for (int i = 0; i < 4; i++) {
                all.add(x.read(tape, i));
            }
            all.add(x.item(tape, 60, 0));
        }
        for (int set = 1; set < 64; set += 6) {
            all.add(x.next(set));
            all.add(x.worst(set, 2));
        }
        // the bytes of THE TEXT show in where its end, or what it says, is
        all.add(x.feed('1', 1));
        all.add(x.law(0, 0));
        all.add(x.says(0, 0, 99));
        for (int day = 0; day < 4; day++) {
            all.add(x.sun(day, 0));
            all.add(x.misprint(day, -1));
        }
        return all;
    }

    private static void seenOfLog(PoleLogs x, int log, List<Integer> all) {
        for (int day = -1; day < 4; day++) {
            all.add(x.place(log, day, 99));
        }
        all.add(x.place(log, 199, 0));
        all.add(x.can(log, 0));
        all.add(x.can(log, 1));
        all.add(x.beyond(log, 0));
        all.add(x.beyond(log, 1));
        all.add(x.quarrel(log));
        all.add(x.home(log));
        for (int what = 0; what < 2; what++) {
            all.add(x.needs(log, what));
            all.add(x.made(log, what));
        }
        for (int story = 0; story < 3; story++) {
            all.add(x.falses(log, story, 5, 99));
        }
        all.add(x.least(log, 5, 99));
        all.add(x.says(0, log, 99));
        all.add(x.says(1, log, 99));
    }

    private static final Object[][] REFUSED_WITH_SOME = {
        {BAD, "pass", 0}, {BAD, "pass", 21}, {BAD, "pass", -1},
        {NONE, "drift", 64, 9, 9}, {BAD, "drift", 12, 31, 9}, {BAD, "drift", 12, 9, 31}, {BAD, "drift", 0, 9, -31},
        {NONE, "ice", 64, 0, 1}, {NONE, "ice", 12, 2, 1}, {BAD, "ice", 12, 0, 10}, {BAD, "ice", 12, 1, 9},
        {NONE, "sun", 200, 9}, {BAD, "sun", 2, 1501}, {BAD, "sun", 0, -1},
        {BAD, "man", 0, 1}, {BAD, "man", 1, 10},
        {NONE, "party", 2, 1, 1, 1}, {BAD, "party", 0, 4, 9, 9}, {BAD, "party", 0, 1, 100, 9}, {BAD, "party", 0, 1, 9, 10000},
        {NONE, "start", 2, 1, 1}, {BAD, "start", 0, 400, 1}, {BAD, "start", 1, 1, -401},
        {NONE, "claim", 2, 1, 1, 1}, {BAD, "claim", 0, 1, 1, 200}, {BAD, "claim", 0, 1, 1, -2}, {BAD, "claim", 0, 400, 1, 1},
        {BAD, "claim", 1, 1, 400, 1}, {NONE, "claim", -1, 0, 0, -1},
        {NONE, "march", 2, 5, 1, 1, 1}, {NONE, "march", 0, 200, 1, 1, 1}, {BAD, "march", 0, 5, 25, 1, 1},
        {BAD, "march", 0, 5, 1, 61, 1}, {BAD, "march", 0, 2, 1, 1, 16}, {STATE, "march", 0, 1, 1, 1, 1},
        {NONE, "height", 2, 0, 1, 1, true}, {NONE, "height", 0, -1, 1, 1, false}, {BAD, "height", 0, 2, 5401, 1, false},
        {BAD, "height", 0, 2, 1, 61, true},
        {NONE, "compass", 2, 0, 1}, {NONE, "compass", 0, 200, 1}, {BAD, "compass", 0, 0, 16},
        {NONE, "picture", 2, 0, 1, 1, 1}, {NONE, "picture", 0, 200, 1, 1, 1}, {BAD, "picture", 0, 2, 0, 1, 1},
        {BAD, "picture", 0, 2, 1, 1000, 1}, {BAD, "picture", 0, 2, 1, 1, 10},
        {NONE, "word", 2, 0, 0, 1, 1, 1}, {NONE, "word", 0, 200, 0, 1, 1, 1}, {NONE, "word", 0, 0, 2, 1, 1, 1},
        {BAD, "word", 0, 0, 0, 400, 1, 1}, {BAD, "word", 0, 0, 0, 1, 1, 201},
        {NONE, "torn", 2, 0, 0, 0, 2, 0}, {NONE, "torn", 0, 200, 0, 0, 2, 0}, {NONE, "torn", 0, 0, 6, 0, 2, 0},
        {BAD, "torn", 0, 0, 0, 0, 41, 0}, {BAD, "torn", 0, 0, 0, 0, 2, 61}, {CAST, "torn", 0, 0, 2, 0, 2, 0},
        {NO, "of", 8, 0}, {NO, "of", 0, 8}, {NO, "of", 0, 7}, {NONE, "fits", 8, 0, 0}, {BAD, "fits", 0, 400, 0},
        {NONE, "place", 2, 0, 0}, {NONE, "place", 0, 200, 0}, {NONE, "place", 0, 0, 100}, {NONE, "can", 2, 0},
        {NONE, "can", 0, 200}, {NONE, "beyond", 2, 0}, {NONE, "beyond", 0, 2}, {BAD, "latitude", 400, 0},
        {NONE, "quarrel", 2}, {NONE, "home", 2}, {NO, "needs", 2, 0}, {NO, "needs", 0, 2}, {NO, "needs", 1, 0},
        {NONE, "held", 2, 2, 1}, {NONE, "held", 0, 6, 1}, {BAD, "held", 0, 2, 11}, {STATE, "held", 1, 2, 1},
        {NOTHING, "held", 0, 1, 1}, {CAST, "held", 0, 0, 1}, {PLACE, "held", 0, 2, 2},
        {NONE, "falses", 0, 3, 0, 0}, {BAD, "falses", 0, 0, 100, 0}, {STATE, "falses", 1, 0, 0, 0},
        {NONE, "least", 0, 0, 100}, {BAD, "least", 0, 100, 0}, {STATE, "least", 1, 0, 0},
        {NONE, "misprint", 200, 9}, {BAD, "misprint", 2, 1501}, {BAD, "misprint", 0, -2},
        {NONE, "made", 0, 2}, {STATE, "made", 1, 0},
        {BAD, "feed", 'h', 5}, {BAD, "feed", 'h', -1}, {NONE, "law", 6, 0}, {BAD, "law", 0, 100}, {BAD, "law", 0, -1},
        {NONE, "says", 6, 0, 0}, {ANY, "says", 1, 0, 0}, {ANY, "says", 0, 1, 9},
        {BAD, "look", 4096}, {BAD, "look", -1}, {NONE, "worth", 2, 1}, {BAD, "worth", 0, 64}, {BAD, "next", 0},
        {BAD, "worst", 0, 0}, {BAD, "worst", 1, 5}, {NONE, "trace", 20}, {NONE, "trace", -1},
        {BAD, "taken", 0, 7}, {NOTHING, "taken", 8, 0}, {CAST, "taken", 0, 2}, {BAD, "count", 8},
        {NONE, "tape", 6, 0, 1}, {BAD, "tape", 0, 5, 1}, {BAD, "tape", 0, 0, 61}, {SIZE, "tape", 0, 0, -1},
        {NONE, "item", 6, 0, 1}, {NOTHING, "item", 1, 0, 1}, {PLACE, "item", 0, 3, 1}, {PLACE, "item", 0, -1, 1},
        {BAD, "item", 3, 0, 8000001}, {NO, "read", 1, 0}, {NO, "read", 6, 0}, {NO, "read", 0, 3},
        {NONE, "shift", 6, 0, 0, 0, 1}, {NOTHING, "shift", 0, 0, 1, 0, 1}, {CAST, "shift", 0, 0, 2, 0, 1},
        {PLACE, "shift", 0, 1, 0, 0, 3}, {PLACE, "shift", 2, 0, 2, 1, 3}, {PLACE, "shift", 2, 0, 2, 1, -1}};

    private static final Object[][] REFUSED_WHEN_FULL = {
        {FULL, "man", 1, 1}, {FULL, "march", 0, 1, 10, 20, 1}, {STATE, "march", 0, 0, 1, 1, 1},
        {FULL, "height", 0, 0, 1, 1, false}, {FULL, "height", 0, 0, 1, 1, true}, {FULL, "compass", 0, 0, 1},
        {FULL, "picture", 0, 0, 1, 1, 1}, {FULL, "word", 0, 0, 0, 1, 1, 1}, {0, "torn", 0, 0, 2, 0, 2, 0},
        {FULL, "feed", 'h', 1}, {FULL, "feed", 'h', 4}, {FULL, "law", 0, 0}, {FULL, "look", 1}};

    private static void unchanged(PoleLogs asked, PoleLogs twin, Object[] row) throws Exception {
        Object[] args = Arrays.copyOfRange(row, 2, row.length);
        for (int i = 0; i < args.length; i++) {
            // bytes are written as signs above
            args[i] = args[i] instanceof Character c ? (Object) (int) c : args[i];
        }
        refused(asked, (Integer) row[0], (String) row[1], args);
        due("nothing changed by " + row[1] + Arrays.toString(args), seen(asked).equals(seen(twin)) ? 1 : 0, 1);
    }

    @Says("What is answered so changes nothing.")
    static void refusedCallsChangeNothing() throws Exception {
        for (Object[] row : REFUSED_WITH_SOME) {
            unchanged(some(), some(), row);
        }
    }

    @Says("What is answered so changes nothing.")
    static void refusedCallsChangeNothingWhenFull() throws Exception {
        for (Object[] row : REFUSED_WHEN_FULL) {
            unchanged(filled(), filled(), row);
        }
        PoleLogs late = fresh();
        PoleLogs twin = fresh();
        for (int i = 0; i < 4; i++) {
            late.pass(20);
            twin.pass(20);
        }
        unchanged(late, twin, new Object[] {BAD, "pass", 20});
        unchanged(fresh(), fresh(), new Object[] {STATE, "next", 1});
    }

    @Says(in = "What it is", value = "An object is used for at most 512 calls after it has been made")
    static void the512thCall() {
        PoleLogs x = withStart(0, 0);
        for (int i = 2; i < 512; i++) {
            x.tape(i % 6, i % 5, 60);
        }
        due("the 512th", x.place(0, -1, 0), place(0, 0));
        PoleLogs y = fresh();
        for (int i = 0; i < 511; i++) {
            y.compass(0, 0, 0);
        }
        due("the 512th", y.count(2), 120);
    }
}
