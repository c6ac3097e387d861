/** Promises 37 to 44: acts, counts, tapes. Each clause of each promise has its test. */
public final class PromiseActsTapesTest extends Edge {
    public static void main(String[] args) throws Exception {
        runAll(PromiseActsTapesTest.class);
    }

    /** ROWS 0 .. 5: MARCH, HEIGHT, COMPASS, PICTURE, WORD, MADE. */
    private static PoleLogs oneOfEach() {
        PoleLogs x = withMan();
        x.march(0, 2, 5, 6, 7);
        x.height(0, 1, 100, 2, false);
        x.compass(0, 3, 11);
        x.picture(0, 4, 8, 9, 1);
        x.word(0, 5, 0, 1, 1, 1);
        x.height(0, 6, 200, 2, true);
        return x;
    }

    @Says(in = "Promise 37", value = "An ACT of a ROW's KIND with x.")
    static void p37Act() {
        int[][] want = {{12, 17, 17}, {17, 16, 17 + 10}, {18, 15, 15 ^ 2}, {15, 11, -(11 ^ 3)}, {7, 6, 6 ^ 4},
            {235, 229, (227 ^ 5) + 217}};
        PoleLogs x = oneOfEach();
        for (int row = 0; row < 6; row++) {
            for (int act = 0; act < 3; act++) {
                due("ROW " + row + " act " + act, x.act(row, act, 7), want[row][act]);
            }
        }
    }

    @Says(in = "Promise 37", value = "0, and no TRACE then: no such ROW, act.")
    static void p37None() {
        PoleLogs x = oneOfEach();
        int[][] wrong = {{6, 0}, {-1, 0}, {MAX, 0}, {MIN, 2}, {0, 3}, {0, -1}, {5, MAX}, {5, MIN}, {6, 3}};
        for (int[] w : wrong) {
            due("an act", x.act(5, 2, 1) == 0 ? 1 : 0, 0);
            due("its bodies", x.count(7), 15);
            due("ROW " + w[0] + " act " + w[1], x.act(w[0], w[1], 9), 0);
            due("no bodies", x.count(7), 0);
            due("no TRACE", x.trace(0), NONE);
            due("no TRACE", x.trace(14), NONE);
        }
        due("no ROWS", fresh().act(0, 0, 9), 0);
        due("the last ROW's last act", x.act(5, 2, 9) == 0 ? 1 : 0, 0);
        due("the first ROW's first act", x.act(0, 0, 9), 14);
    }

    @Says(in = "Promise 38", value = "THE TRACE's i-th body.")
    static void p38Trace() {
        int[][][] want = {
            {{10}, {20, 11, 10}, {12, 20, 11, 10}},
            {{30, 10}, {11, 30, 10}, {31, 12, 11, 30, 10, 11, 30, 10}},
            {{40, 10}, {11, 40, 10}, {12, 11, 40, 10}},
            {{10}, {11, 10}, {50, 12, 11, 10}},
            {{10}, {60, 11, 10}, {12, 60, 11, 10}},
            {{70, 30, 10, 30, 10}, {11, 70, 30, 10, 30, 10},
                {71, 31, 12, 11, 70, 30, 10, 30, 10, 11, 70, 30, 10, 30, 10}}};
        PoleLogs x = oneOfEach();
        for (int row = 0; row < 6; row++) {
            for (int act = 0; act < 3; act++) {
                x.act(row, act, 3);
                int[] bodies = want[row][act];
                due("bodies of ROW " + row + " act " + act, x.count(7), bodies.length);
                for (int i = 0; i < bodies.length; i++) {
                    due("body " + i + " of ROW " + row + " act " + act, x.trace(i), bodies[i]);
                }
                due("none behind", x.trace(bodies.length), NONE);
            }
        }
    }

    @Says(in = "Promise 38", value = "NONE.")
    static void p38None() {
        due("no act yet", fresh().trace(0), NONE);
        PoleLogs x = oneOfEach();
        x.act(5, 2, 1);
        tooSmall("i", 0, NONE, i -> x.trace(i));
        tooLarge("i", 14, NONE, i -> x.trace(i));
        due("the last", x.trace(14), 10);
        x.act(0, 0, 1);
        due("the latest act's alone", x.trace(1), NONE);
        due("its first", x.trace(0), 10);
    }

    @Says(in = "Promise 39", value = "A ROW taken for one of KIND k (0 .. 6), or one under that: its KIND.")
    static void p39Taken() {
        PoleLogs x = oneOfEach();
        for (int row = 0; row < 6; row++) {
            due("as ROW", x.taken(row, 0), row + 1);
            due("as its own", x.taken(row, row + 1), row + 1);
        }
        due("MADE as HEIGHT", x.taken(5, 2), 6);
        due("HEIGHT as MADE", x.taken(1, 6), CAST);
    }

    @Says(in = "Promise 39", value = "BAD: k")
    static void p39K() {
        tooSmall("k", 0, BAD, k -> oneOfEach().taken(5, k));
        tooLarge("k", 6, BAD, k -> oneOfEach().taken(5, k));
    }

    @Says(in = "Promise 39", value = "NOTHING: no such ROW")
    static void p39Nothing() {
        for (int k = 0; k < 7; k++) {
            int kind = k;
            due("no ROWS", fresh().taken(0, kind), NOTHING);
            tooSmall("row", 0, NOTHING, row -> oneOfEach().taken(row, kind));
            tooLarge("row", 5, NOTHING, row -> oneOfEach().taken(row, kind));
        }
        PoleLogs x = fresh();
        fillRows(x, 120);
        due("the last", x.taken(119, 2), 2);
        due("none behind", x.taken(120, 2), NOTHING);
    }

    @Says(in = "Promise 39", value = "CAST.")
    static void p39Cast() {
        PoleLogs x = oneOfEach();
        for (int row = 0; row < 6; row++) {
            for (int k = 1; k < 7; k++) {
                if (k != row + 1 && !(row == 5 && k == 2)) {
                    due("ROW " + row + " as " + k, x.taken(row, k), CAST);
                }
            }
        }
    }

    @Says(in = "Promise 40", value = "How many: 0 NOW, 1 MEN, 2 ROWS, 3 LAWS, 4 bytes of THE TEXT, 5 LOOKS, 6 MISPRINTS, 7"
        + " bodies that ran in the latest act().")
    static void p40Count() {
        PoleLogs x = oneOfEach();
        x.man(2, 2);
        x.pass(20);
        for (int i = 0; i < 4; i++) {
            law(x, 0, 0, "h=0");
        }
        feed(x, "h=00|");
        for (int i = 0; i < 7; i++) {
            x.look(0);
            x.misprint(i, 0);
        }
        x.misprint(199, 1500);
        x.act(1, 2, 0);
        int[] want = {20, 2, 6, 4, 5, 7, 8, 8};
        for (int what = 0; what < 8; what++) {
            due("count " + what, x.count(what), want[what]);
        }
    }

    @Says(in = "Promise 40", value = "BAD.")
    static void p40Bad() {
        bounds("what", 0, 7, BAD, 0, what -> fresh().count(what));
    }

    @Says(in = "Promise 41", value = "A TAPE becomes a row of n (0 .. 60) of a sort, all 0, or holds nothing (sort -1: n does not"
        + " matter): 1.")
    static void p41Tape() {
        for (int sort = 0; sort < 5; sort++) {
            PoleLogs x = fresh();
            due("60", x.tape(5, sort, 60), 1);
            for (int i = 0; i < 60; i++) {
                due("all 0", x.read(5, i), 0);
                x.item(5, i, 1);
            }
            due("no 61st", x.read(5, 60), NO);
            due("1", x.tape(5, sort, 1), 1);
            due("0 again", x.read(5, 0), 0);
            due("no second", x.item(5, 1, 0), PLACE);
            x.item(5, 0, 1);
            due("60 again", x.tape(5, sort, 60), 1);
            due("0 again", x.read(5, 0) | x.read(5, 59), 0);
            due("none", x.tape(5, sort, 0), 1);
            due("no first", x.item(5, 0, 0), PLACE);
            for (int n : new int[] {0, 60, 61, -1, MAX, MIN}) {
                due("nothing", x.tape(5, -1, n), 1);
                due("nothing", x.item(5, 0, 0), NOTHING);
            }
        }
        PoleLogs x = fresh();
        for (int tape = 0; tape < 6; tape++) {
            fill(x, tape, INTS, tape);
        }
        x.tape(3, -1, 0);
        x.tape(4, INTS, 1);
        for (int tape = 0; tape < 6; tape++) {
            due("each its own", x.read(tape, 0), tape == 3 ? NO : tape == 4 ? 0 : tape);
        }
    }

    @Says(in = "Promise 41", value = "NONE: tape")
    static void p41None() {
        bounds("tape", 0, 5, NONE, 1, tape -> fresh().tape(tape, 4, 60));
        bounds("tape, sort -1", 0, 5, NONE, 1, tape -> fresh().tape(tape, -1, 60));
    }

    @Says(in = "Promise 41", value = "BAD: sort, n above 60")
    static void p41Bad() {
        bounds("sort", -1, 4, BAD, 1, sort -> fresh().tape(5, sort, 60));
        for (int sort = 0; sort < 5; sort++) {
            int s = sort;
            due("n 60", fresh().tape(5, s, 60), 1);
            tooLarge("n", 60, BAD, n -> fresh().tape(5, s, n));
        }
        due("sort and size", fresh().tape(5, 5, -1), BAD);
        due("sort and size", fresh().tape(5, -2, -1), BAD);
    }

    @Says(in = "Promise 41", value = "SIZE.")
    static void p41Size() {
        for (int sort = 0; sort < 5; sort++) {
            int s = sort;
            tooSmall("n", 0, SIZE, n -> fresh().tape(5, s, n));
        }
        PoleLogs x = withTape(INTS, 7);
        due("refused", x.tape(0, INTS, -1), SIZE);
        due("as it was", x.read(0, 0), 7);
    }

    @Says(in = "Promise 42", value = "Item i of a TAPE becomes v (its lowest bits, as many as an item has; floats: v eighths, v"
        + " -8000000 .. 8000000; booleans: whether v is not 0): 1.")
    static void p42Item() {
        int[] values = {0, 1, -1, 127, 128, -128, -129, 255, 256, 32767, 32768, -32768, -32769, 65535, 65536, MAX, MIN};
        for (int v : values) {
            due("a byte of " + v, item(BYTES, v), (v & 255) < 128 ? v & 255 : (v & 255) - 256);
            due("a short of " + v, item(SHORTS, v), (v & 65535) < 32768 ? v & 65535 : (v & 65535) - 65536);
            due("an int of " + v, item(INTS, v), v);
            due("a boolean of " + v, item(BOOLEANS, v), v == 0 ? 0 : 1);
        }
        for (int v : new int[] {0, 1, -1, 8000000, -8000000, 7999999, -7999999, 4194305}) {
            due("eighths " + v, item(FLOATS, v), v);
        }
    }

    /** What the last of 60 items is behind item(v). */
    private static int item(int sort, int v) {
        PoleLogs x = fresh();
        x.tape(5, sort, 60);
        due("item", x.item(5, 59, v), 1);
        due("the one ahead", x.read(5, 58), 0);
        return x.read(5, 59);
    }

    @Says(in = "Promise 42", value = "NONE")
    static void p42None() {
        bounds("tape", 0, 5, NONE, NOTHING, tape -> fresh().item(tape, 0, 0));
    }

    @Says(in = "Promise 42", value = "NOTHING")
    static void p42Nothing() {
        for (int i : new int[] {0, 59, 60, -1, MIN, MAX}) {
            due("nothing", fresh().item(5, i, 0), NOTHING);
        }
        PoleLogs x = withTape(INTS, 1);
        x.tape(0, -1, 60);
        due("gone", x.item(0, 0, 0), NOTHING);
        due("a row of none is a row", withTape(INTS).item(0, 0, 0), PLACE);
    }

    @Says(in = "Promise 42", value = "PLACE")
    static void p42Place() {
        for (int sort = 0; sort < 5; sort++) {
            int s = sort;
            bounds("i of 60", 0, 59, PLACE, 1, i -> sixty(s).item(0, i, 1));
            bounds("i of 1", 0, 0, PLACE, 1, i -> withTape(s, 0).item(0, i, 1));
        }
        due("and BAD", withTape(FLOATS, 0).item(0, 1, MAX), PLACE);
    }

    private static PoleLogs sixty(int sort) {
        PoleLogs x = fresh();
        x.tape(0, sort, 60);
        return x;
    }

    @Says(in = "Promise 42", value = "BAD: v for floats.")
    static void p42Bad() {
        bounds("eighths", -8000000, 8000000, BAD, 1, v -> withTape(FLOATS, 3).item(0, 0, v));
        PoleLogs x = withTape(FLOATS, 3);
        x.item(0, 0, 8000001);
        due("as it was", x.read(0, 0), 3);
        for (int sort : new int[] {BYTES, SHORTS, INTS, BOOLEANS}) {
            due("no float", withTape(sort, 3).item(0, 0, 8000001), 1);
            due("no float", withTape(sort, 3).item(0, 0, MIN), 1);
        }
    }

    @Says(in = "Promise 43", value = "Item i of a TAPE (of floats its eighths).")
    static void p43Read() {
        for (int sort = 0; sort < 5; sort++) {
            PoleLogs x = withTape(sort, 1, 0, 1);
            due("the first", x.read(0, 0), 1);
            due("the second", x.read(0, 1), 0);
            due("the last", x.read(0, 2), 1);
        }
        due("eighths", withTape(FLOATS, -7999999).read(0, 0), -7999999);
        due("NO itself can be an int", withTape(INTS, NO).read(0, 0), NO);
    }

    @Says(in = "Promise 43", value = "NO: no such TAPE, nothing there, no such place.")
    static void p43No() {
        tooSmall("tape", 0, NO, tape -> withTape(INTS, 1).read(tape, 0));
        tooLarge("tape", 5, NO, tape -> withTape(INTS, 1).read(tape, 0));
        due("nothing there", withTape(INTS, 1).read(1, 0), NO);
        PoleLogs gone = withTape(INTS, 1);
        gone.tape(0, -1, 1);
        due("gone", gone.read(0, 0), NO);
        for (int sort = 0; sort < 5; sort++) {
            int s = sort;
            bounds("i of 60", 0, 59, NO, 0, i -> sixty(s).read(0, i));
            due("of none", withTape(s).read(0, 0), NO);
        }
    }

    private static void items(String name, PoleLogs x, int tape, int... want) {
        for (int i = 0; i < want.length; i++) {
            due(name + ", item " + i, x.read(tape, i), want[i]);
        }
    }

    @Says(in = "Promise 44", value = "n items of a TAPE from i on come to another one (or the same) from j on, as they all were"
        + " before: n.")
    static void p44Shift() {
        PoleLogs x = withTape(INTS, 1, 2, 3, 4, 5);
        fill(x, 5, INTS, 6, 7, 8);
        due("to another", x.shift(0, 2, 5, 0, 3), 3);
        items("to another", x, 5, 3, 4, 5);
        items("they stay", x, 0, 1, 2, 3, 4, 5);
        due("forth", x.shift(0, 0, 0, 1, 4), 4);
        items("forth", x, 0, 1, 1, 2, 3, 4);
        due("back", x.shift(0, 1, 0, 0, 4), 4);
        items("back", x, 0, 1, 2, 3, 4, 4);
        due("all onto themselves", x.shift(0, 0, 0, 0, 5), 5);
        items("all onto themselves", x, 0, 1, 2, 3, 4, 4);
        due("none", x.shift(0, 0, 5, 0, 0), 0);
        due("none at the ends", x.shift(0, 5, 5, 3, 0), 0);
        items("none", x, 5, 3, 4, 5);
        due("one to the end", x.shift(0, 0, 5, 2, 1), 1);
        items("one to the end", x, 5, 3, 4, 1);
        for (int sort = 0; sort < 5; sort++) {
            PoleLogs y = withTape(sort, 1, 0, 1);
            y.tape(1, sort, 60);
            due("sort " + sort, y.shift(0, 0, 1, 57, 3), 3);
            due("the last", y.read(1, 59), 1);
            due("the one ahead", y.read(1, 58), 0);
            due("not farther", y.read(1, 56), 0);
        }
    }

    @Says(in = "Promise 44", value = "NONE: tapes")
    static void p44None() {
        bounds("tape", 0, 5, NONE, NOTHING, tape -> fresh().shift(tape, 0, 0, 0, 0));
        bounds("other", 0, 5, NONE, NOTHING, tape -> fresh().shift(0, 0, tape, 0, 0));
    }

    @Says(in = "Promise 44", value = "NOTHING")
    static void p44Nothing() {
        due("from nothing", withTape(INTS, 1).shift(1, 0, 0, 0, 0), NOTHING);
        due("to nothing", withTape(INTS, 1).shift(0, 0, 1, 0, 0), NOTHING);
        due("nothing to itself", withTape(INTS, 1).shift(1, 0, 1, 0, 0), NOTHING);
        due("of no length", withTape(INTS).shift(0, 0, 0, 0, 0), 0);
    }

    @Says(in = "Promise 44", value = "CAST: of unlike sorts")
    static void p44Cast() {
        for (int from = 0; from < 5; from++) {
            for (int to = 0; to < 5; to++) {
                PoleLogs x = withTape(from, 1);
                fill(x, 1, to, 0);
                due("from " + from + " to " + to, x.shift(0, 0, 1, 0, 1), from == to ? 1 : CAST);
                due("came", x.read(1, 0), from == to ? 1 : 0);
                due("none of them", x.shift(0, 0, 1, 0, 0), from == to ? 0 : CAST);
                due("no place either", x.shift(0, 2, 1, 0, 1), from == to ? PLACE : CAST);
            }
        }
    }

    private static PoleLogs fiveAndThree() {
        PoleLogs x = withTape(SHORTS, 1, 2, 3, 4, 5);
        fill(x, 1, SHORTS, 6, 7, 8);
        return x;
    }

    @Says(in = "Promise 44", value = "PLACE: n, i or j is below 0, or beyond either's end.")
    static void p44Place() {
        tooSmall("n", 0, PLACE, n -> fiveAndThree().shift(0, 2, 1, 2, n));
        tooSmall("i", 0, PLACE, i -> fiveAndThree().shift(0, i, 1, 0, 0));
        tooSmall("j", 0, PLACE, j -> fiveAndThree().shift(0, 0, 1, j, 0));
        tooLarge("n beyond the other's end", 3, PLACE, n -> fiveAndThree().shift(0, 0, 1, 0, n));
        tooLarge("n beyond its end", 3, PLACE, n -> fiveAndThree().shift(1, 0, 0, 0, n));
        tooLarge("n beyond its end from i on", 1, PLACE, n -> fiveAndThree().shift(0, 4, 1, 0, n));
        tooLarge("n beyond the other's end from j on", 1, PLACE, n -> fiveAndThree().shift(0, 0, 1, 2, n));
        tooLarge("i, none of them", 5, PLACE, i -> fiveAndThree().shift(0, i, 1, 0, 0));
        tooLarge("j, none of them", 3, PLACE, j -> fiveAndThree().shift(0, 0, 1, j, 0));
        tooLarge("i, one of them", 4, PLACE, i -> fiveAndThree().shift(0, i, 1, 0, 1));
        tooLarge("j, one of them", 2, PLACE, j -> fiveAndThree().shift(0, 0, 1, j, 1));
        due("i and n that wrap", fiveAndThree().shift(0, MAX, 1, 0, MAX), PLACE);
        due("j and n that wrap", fiveAndThree().shift(0, 0, 1, MAX, 2), PLACE);
        due("all three that wrap", fiveAndThree().shift(0, MIN, 1, MIN, MIN), PLACE);
        due("just to both ends", fiveAndThree().shift(0, 2, 1, 0, 3), 3);
    }
}
