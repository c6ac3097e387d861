/** Terms, parts 7 and 8: looks and tapes. A test for each sentence with an edge. */
public final class TermsLooksTapesTest extends Edge {
    public static void main(String[] args) throws Exception {
        runAll(TermsLooksTapesTest.class);
    }

    private static PoleLogs looking(int... answers) {
        PoleLogs x = fresh();
        for (int a : answers) {
            x.look(a);
        }
        return x;
    }

    // ---- 7

    @Says("LOOKS 0 .. 7 (a box, a book, a person), as they come")
    static void eightLooks() {
        PoleLogs x = fresh();
        for (int i = 0; i < 8; i++) {
            due("LOOK", x.look(i == 7 ? 1 : 0), i);
        }
        due("one more", x.look(0), FULL);
        due("LOOKS", x.count(5), 8);
        due("the last", x.worth(7, 3), 1);
        due("none behind it", x.worth(8, 3), NONE);
        due("the last is the best", x.next(3), 7);
        due("and counts for WORST", x.worst(3, 1), 1);
    }

    @Says("what each of 6 TELLINGS (0 .. 5) says there")
    static void sixTellings() {
        for (int t = 0; t < 6; t++) {
            PoleLogs x = looking(1 << 2 * t);
            for (int other = 0; other < 6; other++) {
                if (other != t) {
                    due(t + " and " + other, x.worth(0, 1 << t | 1 << other), 1);
                    due("all but " + other, x.worth(0, 63 & ~(1 << other)), 4);
                }
            }
            due("all", x.worth(0, 63), 5);
        }
        due("a seventh", looking(0).worth(0, 64), BAD);
        due("a seventh among others", looking(0).worth(0, 127), BAD);
    }

    @Says("an answer 0 .. 3 for each.")
    static void fourAnswers() {
        for (int a = 0; a < 4; a++) {
            for (int b = 0; b < 4; b++) {
                PoleLogs x = looking(a << 10 | b);
                due("5 says " + a + ", 0 says " + b, x.worth(0, 33), a == b ? 2 : 1);
            }
        }
        due("each answer once", looking(0b11100100).worth(0, 15), 1);
        due("3 for all", looking(4095).worth(0, 63), 6);
        due("beyond 3 for the last", fresh().look(4096), BAD);
    }

    @Says("WORTH of a LOOK for a set of TELLINGS: how many of them are in the greatest part that has one answer.")
    static void worths() {
        // answers of 5 .. 0: 2 2 1 1 1 0
        PoleLogs x = looking(0b101001010100);
        due("all", x.worth(0, 63), 3);
        due("only of the set", x.worth(0, 0b110001), 2);
        due("one of each", x.worth(0, 0b100011), 1);
        due("a single one", x.worth(0, 1), 1);
        due("the greatest is the last", looking(0b111111111111).worth(0, 63), 6);
        due("the greatest is the first", looking(0).worth(0, 63), 6);
    }

    @Says("NEXT of a set: the LOOK of least WORTH (of several the least).")
    static void nexts() {
        PoleLogs x = looking(0, 0, 1, 1, 5);
        due("of two alike the least", x.next(3), 2);
        due("of all alike the least", x.next(32), 0);
        due("the only best", x.next(6), 4);
        due("alike again", x.next(63), 4);
        due("no LOOK parts these", x.next(48), 0);
        due("the first is the best", looking(1, 0).next(3), 0);
    }

    @Says("WORST for a set and n LOOKS (0 .. 4)")
    static void worstByNumber() {
        PoleLogs x = looking(1, 4, 16, 64, 256, 1024);
        for (int n = 0; n <= 4; n++) {
            due("n " + n, x.worst(63, n), n == 0 ? 6 : 6 - n);
        }
        tooSmall("n", 0, BAD, n -> looking(1).worst(63, n));
        tooLarge("n", 4, BAD, n -> looking(1).worst(63, n));
    }

    @Says("the least number of TELLINGS that may be left in the worst case, if one looks as well as can be, each LOOK chosen"
        + " by what was found.")
    static void worstAsWellAsCanBe() {
        // 80 parts 0 1 from 2 3; 4 parts 0 from 1; 64 parts 2 from 3
        PoleLogs x = looking(80, 4, 64);
        due("1 LOOK", x.worst(15, 1), 2);
        due("2 LOOKS, chosen by what was found", x.worst(15, 2), 1);
        due("1 is the least", x.worst(15, 4), 1);
        due("a single one", x.worst(8, 0), 1);
        due("a single one, 4 LOOKS", x.worst(8, 4), 1);
        due("no LOOKS", fresh().worst(63, 4), 6);
        due("no LOOKS, one left", fresh().worst(32, 4), 1);
        due("a LOOK twice is no help", looking(80).worst(15, 4), 2);
        due("a LOOK that parts nothing", looking(0).worst(63, 4), 6);
        due("the worst case counts", looking(1).worst(63, 1), 5);
    }

    // ---- 8

    @Says("TAPES 0 .. 5 hold nothing (at first)")
    static void sixTapes() {
        PoleLogs x = fresh();
        for (int tape = 0; tape < 6; tape++) {
            due("item", x.item(tape, 0, 0), NOTHING);
            due("read", x.read(tape, 0), NO);
            due("shift", x.shift(tape, 0, tape, 0, 0), NOTHING);
            due("torn", x.torn(0, 0, tape, 0, 1, 0), 0);
        }
        bounds("tape", 0, 5, NONE, 1, tape -> fresh().tape(tape, 0, 1));
        bounds("item", 0, 5, NONE, NOTHING, tape -> fresh().item(tape, 0, 0));
        bounds("read", 0, 5, NO, 0, tape -> allTapes().read(tape, 0));
        bounds("shift from", 0, 5, NONE, 1, tape -> allTapes().shift(tape, 0, 0, 0, 1));
        bounds("shift to", 0, 5, NONE, 1, tape -> allTapes().shift(0, 0, tape, 0, 1));
        bounds("torn", 0, 5, NONE, 1, tape -> allTapes().torn(0, 0, tape, 0, 1, 0));
        bounds("held", 0, 5, NONE, STATE, tape -> allTapes().held(0, tape, 1));
    }

    private static PoleLogs allTapes() {
        PoleLogs x = fresh();
        for (int tape = 0; tape < 6; tape++) {
            x.tape(tape, SHORTS, 1);
        }
        return x;
    }

    private static int kept(int sort, int v) {
        return withTape(sort, v).read(0, 0);
    }

    @Says("0 bytes, 1 shorts, 2 ints")
    static void lowestBits() {
        int[] values = {0, 127, 128, 255, 256, -128, -129, 32767, 32768, 65535, 65536, -32768, -32769, MAX, MIN};
        int[] bytes = {0, 127, -128, -1, 0, -128, 127, -1, 0, -1, 0, 0, -1, -1, 0};
        int[] shorts = {0, 127, 128, 255, 256, -128, -129, 32767, -32768, -1, 0, -32768, 32767, -1, 0};
        for (int i = 0; i < values.length; i++) {
            due("byte of " + values[i], kept(BYTES, values[i]), bytes[i]);
            due("short of " + values[i], kept(SHORTS, values[i]), shorts[i]);
            due("int of " + values[i], kept(INTS, values[i]), values[i]);
        }
        tooSmall("sort", -1, BAD, sort -> fresh().tape(0, sort, 1));
        tooLarge("sort", 4, BAD, sort -> fresh().tape(0, sort, 1));
    }

    @Says("3 floats (told in eighths)")
    static void eighths() {
        for (int v : new int[] {0, 1, -1, 7, 8, 9, -9, 7999999, -7999999, 8000000, -8000000}) {
            due("eighths " + v, kept(FLOATS, v), v);
        }
    }

    @Says("4 booleans (items 0, 1).")
    static void booleans() {
        for (int v : new int[] {1, 2, -1, 256, 65536, MIN, MAX}) {
            due("boolean of " + v, kept(BOOLEANS, v), 1);
        }
        due("boolean of 0", kept(BOOLEANS, 0), 0);
    }

    @Says("NOTHING (-11): nothing is there")
    static void nothing() {
        PoleLogs x = withClaim(0, 0, 0);
        x.tape(0, BYTES, 2);
        due("item", x.item(1, 0, 0), -11);
        due("held", x.held(0, 1, 1), -11);
        due("shift from", x.shift(1, 0, 0, 0, 0), -11);
        due("shift to", x.shift(0, 0, 1, 0, 0), -11);
        due("taken", x.taken(0, 0), -11);
        x.tape(0, -1, 0);
        due("gone", x.item(0, 0, 0), -11);
    }

    @Says("CAST (-12): another sort or KIND")
    static void casts() {
        for (int sort = 0; sort < 5; sort++) {
            PoleLogs x = withClaim(0, -300, 0);
            x.tape(0, sort, 2);
            due("torn of " + sort, x.torn(1, 0, 0, 0, 1, 0), sort == SHORTS ? 1 : -12);
            due("held of " + sort, x.held(0, 0, 1), sort == BYTES ? 0 : -12);
            for (int other = 0; other < 5; other++) {
                x.tape(1, other, 2);
                due("shift of " + sort + " to " + other, x.shift(0, 0, 1, 0, 2), sort == other ? 2 : -12);
            }
        }
        PoleLogs x = fresh();
        x.compass(0, 0, 0);
        due("another KIND", x.taken(0, 2), -12);
    }

    @Says("PLACE (-13): no such place")
    static void noSuchPlace() {
        PoleLogs x = withClaim(0, 0, 0);
        x.tape(0, BYTES, 3);
        due("item -1", x.item(0, -1, 0), -13);
        due("item 3", x.item(0, 3, 0), -13);
        due("held, two rows of three items", x.held(0, 0, 2), -13);
        due("shift", x.shift(0, 1, 0, 0, 3), -13);
        x.tape(0, BYTES, 0);
        due("of an empty row", x.item(0, 0, 0), -13);
    }

    @Says("SIZE (-14): a size below 0.")
    static void sizes() {
        for (int sort = 0; sort < 5; sort++) {
            int s = sort;
            tooSmall("size of sort " + s, 0, -14, n -> fresh().tape(0, s, n));
            due("size 0 of sort " + s, fresh().tape(0, s, 0), 1);
        }
    }
}
