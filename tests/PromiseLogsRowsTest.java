/** Promises 1 to 17: ice, men, logs, rows. Each clause of each promise has its test. */
public final class PromiseLogsRowsTest extends Edge {
    public static void main(String[] args) throws Exception {
        runAll(PromiseLogsRowsTest.class);
    }

    @Says(in = "Promise 1", value = "Nobody went; all is 0.")
    static void p01New() {
        PoleLogs x = fresh();
        for (int what = 0; what < 8; what++) {
            due("count " + what, x.count(what), 0);
        }
        for (int log = 0; log < 2; log++) {
            due("place", x.place(log, 199, 99), place(0, -300));
            due("can", x.can(log, 199), 0);
            due("beyond", x.beyond(log, 0), 0);
            due("most beyond", x.beyond(log, 1), ANY);
            due("quarrel", x.quarrel(log), ANY);
            due("home", x.home(log), 0);
            due("needs", x.needs(log, 0), NO);
            due("never", x.falses(log, 2, 0, 99), 0);
        }
        due("no ROW", x.of(0, 0), NO);
        due("no MAN", x.word(0, 0, 0, 0, 0, 0), NONE);
        due("no MAN", x.party(0, 1, 0, 0), BAD);
        due("no LAW", x.says(0, 0, 99), ANY);
        due("no LOOK", x.worth(0, 63), NONE);
        due("no SUN", x.sun(0, 0), 0);
        due("no MISPRINT", x.misprint(0, -1), -1);
        due("no TRACE", x.trace(0), NONE);
        due("no TAPE", x.read(0, 0), NO);
    }

    @Says(in = "Promise 2", value = "n YEARS go by (1 .. 20): NOW.")
    static void p02Years() {
        PoleLogs x = fresh();
        due("1", x.pass(1), 1);
        due("20", x.pass(20), 21);
        due("NOW", x.count(0), 21);
        tooSmall("pass", 1, BAD, n -> fresh().pass(n));
        tooLarge("pass", 20, BAD, n -> fresh().pass(n));
    }

    @Says(in = "Promise 2", value = "BAD: also beyond 99.")
    static void p02Beyond() {
        PoleLogs x = fresh();
        for (int i = 1; i <= 4; i++) {
            x.pass(20);
        }
        due("100", x.pass(20), BAD);
        due("NOW", x.count(0), 80);
        due("99", x.pass(19), 99);
        for (int n = 1; n <= 20; n++) {
            due("beyond", x.pass(n), BAD);
        }
        due("NOW", x.count(0), 99);
        x.compass(0, 0, 0);
        due("told in 99", x.of(0, 3), 99);
    }

    @Says(in = "Promise 3", value = "DRIFT of a CELL: 1.")
    static void p03Drift() {
        PoleLogs x = withStart(0, 0);
        due("told", x.drift(36, 30, -30), 1);
        due("it drifts", x.place(0, 0, 0), place(30, -30));
        due("told anew", x.drift(36, 0, 1), 1);
        due("not more", x.place(0, 0, 0), place(0, 1));
    }

    @Says(in = "Promise 3", value = "NONE: cell (0 .. 63)")
    static void p03Cell() {
        bounds("cell", 0, 63, NONE, 1, cell -> fresh().drift(cell, 0, 0));
        PoleLogs x = withStart(399, 399);
        x.drift(63, -1, -2);
        due("the last CELL", x.place(0, 0, 0), place(398, 397));
        x.start(0, -400, -400);
        x.drift(0, 1, 2);
        due("the first CELL", x.place(0, 0, 0), place(-399, -398));
    }

    @Says(in = "Promise 3", value = "BAD.")
    static void p03Bad() {
        bounds("dx", -30, 30, BAD, 1, v -> fresh().drift(63, v, 30));
        bounds("dy", -30, 30, BAD, 1, v -> fresh().drift(63, -30, v));
    }

    @Says(in = "Promise 4", value = "RIDGE (what 0), TURN (1) of a CELL: 1.")
    static void p04Ice() {
        PoleLogs x = fresh();
        x.party(0, 0, 50, 0);
        x.compass(0, 0, 8);
        due("RIDGE", x.ice(12, 0, 9), 1);
        due("is not TURN", x.fits(0, 0, -300), 0);
        due("CAN", x.can(0, 0), 64);
        due("TURN", x.ice(12, 1, 8), 1);
        due("is not RIDGE", x.can(0, 0), 64);
        due("the needle", x.fits(0, 0, -300), 1);
    }

    @Says(in = "Promise 4", value = "NONE: cell, what")
    static void p04None() {
        bounds("cell of RIDGE", 0, 63, NONE, 1, cell -> fresh().ice(cell, 0, 1));
        bounds("cell of TURN", 0, 63, NONE, 1, cell -> fresh().ice(cell, 1, 1));
        bounds("what", 0, 1, NONE, 1, what -> fresh().ice(0, what, 1));
    }

    @Says(in = "Promise 4", value = "BAD.")
    static void p04Bad() {
        bounds("RIDGE", 0, 9, BAD, 1, v -> fresh().ice(63, 0, v));
        bounds("TURN", -7, 8, BAD, 1, v -> fresh().ice(63, 1, v));
    }

    @Says(in = "Promise 5", value = "SUN of a DAY: what it was.")
    static void p05Sun() {
        PoleLogs x = fresh();
        due("at first", x.sun(199, 1500), 0);
        due("then", x.sun(199, 1), 1500);
        due("refused", x.sun(199, 1501), BAD);
        due("as it was", x.sun(199, 0), 1);
        due("0 again", x.sun(199, 0), 0);
        due("of each DAY its own", x.sun(198, 0), 0);
    }

    @Says(in = "Promise 5", value = "NONE: day")
    static void p05Day() {
        bounds("day", 0, 199, NONE, 0, day -> fresh().sun(day, 5));
    }

    @Says(in = "Promise 5", value = "BAD.")
    static void p05Bad() {
        bounds("minutes", 0, 1500, BAD, 0, v -> fresh().sun(0, v));
    }

    @Says(in = "Promise 6", value = "A MAN: the number.")
    static void p06Man() {
        PoleLogs x = fresh();
        due("the first", x.man(20, 9), 0);
        due("refused", x.man(0, 9), BAD);
        due("the second", x.man(1, 0), 1);
        due("MEN", x.count(1), 2);
    }

    @Says(in = "Promise 6", value = "BAD")
    static void p06Bad() {
        bounds("strength", 1, 20, BAD, 0, v -> fresh().man(v, 9));
        bounds("skill", 0, 9, BAD, 0, v -> fresh().man(20, v));
    }

    @Says(in = "Promise 6", value = "FULL.")
    static void p06Full() {
        PoleLogs x = fresh();
        for (int i = 0; i < 12; i++) {
            due("room", x.man(1, 1), i);
        }
        due("no room", x.man(1, 1), FULL);
        due("BAD first", x.man(21, 1), BAD);
        due("MEN", x.count(1), 12);
    }

    @Says(in = "Promise 7", value = "PARTY, DOGS and LOAD of a LOG: 1.")
    static void p07Party() {
        PoleLogs x = withMan();
        due("told", x.party(1, 1, 99, 9999), 1);
        due("CAN", x.can(1, 0), 3 + 198 - 99);
        due("the other's", x.can(0, 0), 0);
        due("nobody", x.party(1, 0, 0, 0), 1);
        due("CAN", x.can(1, 0), 0);
    }

    @Says(in = "Promise 7", value = "NONE: log")
    static void p07Log() {
        bounds("log", 0, 1, NONE, 1, log -> fresh().party(log, 0, 1, 1));
    }

    @Says(in = "Promise 7", value = "BAD: party (MEN that are there), dogs, load.")
    static void p07Bad() {
        bounds("men, none there", 0, 0, BAD, 1, men -> fresh().party(0, men, 0, 0));
        bounds("men, one there", 0, 1, BAD, 1, men -> withMan().party(0, men, 0, 0));
        bounds("men, all there", 0, 4095, BAD, 1, men -> twelve().party(0, men, 0, 0));
        bounds("dogs", 0, 99, BAD, 1, v -> fresh().party(1, 0, v, 0));
        bounds("load", 0, 9999, BAD, 1, v -> fresh().party(1, 0, 0, v));
    }

    private static PoleLogs twelve() {
        PoleLogs x = fresh();
        for (int i = 0; i < 12; i++) {
            x.man(1, 1);
        }
        return x;
    }

    @Says(in = "Promise 8", value = "START of a LOG: 1.")
    static void p08Start() {
        PoleLogs x = fresh();
        due("told", x.start(1, -400, 399), 1);
        due("there", x.place(1, -1, 0), place(-400, 399));
        due("the other's", x.place(0, -1, 0), place(0, -300));
    }

    @Says(in = "Promise 8", value = "NONE: log")
    static void p08Log() {
        bounds("log", 0, 1, NONE, 1, log -> fresh().start(log, 0, 0));
    }

    @Says(in = "Promise 8", value = "BAD: place.")
    static void p08Place() {
        bounds("x", -400, 399, BAD, 1, v -> fresh().start(1, v, 399));
        bounds("y", -400, 399, BAD, 1, v -> fresh().start(1, -400, v));
    }

    @Says(in = "Promise 9", value = "CLAIM of a LOG (day -1: none; the place does not matter then): 1.")
    static void p09Claim() {
        PoleLogs x = fresh();
        due("none of none", x.claim(1, 0, 0, -1), 1);
        due("told", x.claim(1, 399, -400, 0), 1);
        due("it needs", x.needs(1, 0), 399);
        due("it needs", x.needs(1, 1), -100);
        due("the other has none", x.needs(0, 0), NO);
        due("none, nowhere", x.claim(1, MAX, MIN, -1), 1);
        due("gone", x.needs(1, 0), NO);
        due("none, just beside", x.claim(1, 400, -401, -1), 1);
        due("the last DAY", x.claim(1, 399, -400, 199), 1);
        due("it needs", x.needs(1, 0), 1);
    }

    @Says(in = "Promise 9", value = "NONE: log")
    static void p09Log() {
        bounds("log", 0, 1, NONE, 1, log -> fresh().claim(log, 0, 0, 5));
        bounds("log, day -1", 0, 1, NONE, 1, log -> fresh().claim(log, 0, 0, -1));
    }

    @Says(in = "Promise 9", value = "BAD: day, place.")
    static void p09Bad() {
        bounds("day", -1, 199, BAD, 1, day -> fresh().claim(0, 0, 0, day));
        bounds("x", -400, 399, BAD, 1, v -> fresh().claim(0, v, 0, 0));
        bounds("y", -400, 399, BAD, 1, v -> fresh().claim(0, 0, v, 199));
    }

    @Says(in = "Promise 10", value = "A MARCH: its ROW.")
    static void p10March() {
        PoleLogs x = fresh();
        due("the first", x.march(0, 199, 24, 60, 15), 0);
        due("refused", x.march(0, 199, 24, 60, 15), STATE);
        due("the second", x.march(1, 199, 0, 0, 0), 1);
        due("ROWS", x.count(2), 2);
        due("KIND", x.of(0, 0), 1);
    }

    @Says(in = "Promise 10", value = "NONE: log, day")
    static void p10None() {
        bounds("log", 0, 1, NONE, 0, log -> fresh().march(log, 0, 0, 0, 0));
        bounds("day", 0, 199, NONE, 0, day -> fresh().march(1, day, 0, 0, 0));
    }

    @Says(in = "Promise 10", value = "BAD: hours, pace, bearing")
    static void p10Bad() {
        bounds("hours", 0, 24, BAD, 0, v -> fresh().march(1, 0, v, 60, 15));
        bounds("pace", 0, 60, BAD, 0, v -> fresh().march(1, 0, 24, v, 15));
        bounds("bearing", 0, 15, BAD, 0, v -> fresh().march(1, 0, 24, 60, v));
    }

    @Says(in = "Promise 10", value = "STATE: there is one")
    static void p10State() {
        for (int day : new int[] {0, 199}) {
            PoleLogs x = fresh();
            due("the first", x.march(0, day, 0, 0, 0), 0);
            due("the same again", x.march(0, day, 0, 0, 0), STATE);
            due("another", x.march(0, day, 24, 60, 15), STATE);
            due("the other LOG's", x.march(1, day, 0, 0, 0), 1);
            due("ROWS", x.count(2), 2);
            due("as it was", x.of(0, 4), 0);
        }
    }

    @Says(in = "Promise 10", value = "FULL.")
    static void p10Full() {
        PoleLogs x = fresh();
        fillRows(x, 119);
        due("the last", x.march(0, 0, 1, 1, 1), 119);
        due("no room", x.march(0, 1, 24, 60, 4), FULL);
        due("no MARCH", x.place(0, 1, 99), place(0, -300));
        due("still none", x.march(0, 1, 24, 60, 4), FULL);
    }

    @Says(in = "Promise 11", value = "A HEIGHT (made: MADE): its ROW.")
    static void p11Height() {
        PoleLogs x = fresh();
        due("HEIGHT", x.height(0, 0, 5400, 60, false), 0);
        due("MADE", x.height(1, 199, 0, 0, true), 1);
        due("KIND", x.of(0, 0), 2);
        due("KIND", x.of(1, 0), 6);
    }

    @Says(in = "Promise 11", value = "NONE: log, day")
    static void p11None() {
        bounds("log", 0, 1, NONE, 0, log -> fresh().height(log, 0, 0, 0, false));
        bounds("day", 0, 199, NONE, 0, day -> fresh().height(1, day, 0, 0, true));
    }

    @Says(in = "Promise 11", value = "BAD")
    static void p11Bad() {
        for (boolean made : new boolean[] {false, true}) {
            bounds("minutes", 0, 5400, BAD, 0, v -> fresh().height(1, 199, v, 60, made));
            bounds("error", 0, 60, BAD, 0, v -> fresh().height(1, 199, 5400, v, made));
        }
    }

    @Says(in = "Promise 11", value = "FULL.")
    static void p11Full() {
        PoleLogs x = fresh();
        fillRows(x, 119);
        due("the last", x.height(0, 0, 1, 1, false), 119);
        due("no room", x.height(0, 0, 1, 1, false), FULL);
        due("no room", x.height(0, 0, 1, 1, true), FULL);
        due("ROWS", x.count(2), 120);
    }

    @Says(in = "Promise 12", value = "A COMPASS: its ROW.")
    static void p12Compass() {
        PoleLogs x = fresh();
        due("the first", x.compass(0, 0, 0), 0);
        due("the second", x.compass(0, 0, 15), 1);
        due("KIND", x.of(1, 0), 3);
    }

    @Says(in = "Promise 12", value = "NONE: log, day")
    static void p12None() {
        bounds("log", 0, 1, NONE, 0, log -> fresh().compass(log, 0, 0));
        bounds("day", 0, 199, NONE, 0, day -> fresh().compass(1, day, 0));
    }

    @Says(in = "Promise 12", value = "BAD")
    static void p12Bad() {
        bounds("points", 0, 15, BAD, 0, v -> fresh().compass(1, 199, v));
    }

    @Says(in = "Promise 12", value = "FULL.")
    static void p12Full() {
        PoleLogs x = fresh();
        fillRows(x, 119);
        due("the last", x.compass(0, 0, 1), 119);
        due("no room", x.compass(0, 0, 1), FULL);
        due("ROWS", x.count(2), 120);
    }

    @Says(in = "Promise 13", value = "A PICTURE: its ROW.")
    static void p13Picture() {
        PoleLogs x = fresh();
        due("the first", x.picture(0, 0, 1, 999, 0), 0);
        due("the second", x.picture(0, 0, 999, 1, 9), 1);
        due("KIND", x.of(1, 0), 4);
    }

    @Says(in = "Promise 13", value = "NONE: log, day")
    static void p13None() {
        bounds("log", 0, 1, NONE, 0, log -> fresh().picture(log, 0, 1, 1, 0));
        bounds("day", 0, 199, NONE, 0, day -> fresh().picture(1, day, 1, 1, 0));
    }

    @Says(in = "Promise 13", value = "BAD")
    static void p13Bad() {
        bounds("staff", 1, 999, BAD, 0, v -> fresh().picture(1, 199, v, 999, 9));
        bounds("shadow", 1, 999, BAD, 0, v -> fresh().picture(1, 199, 999, v, 9));
        bounds("tilt", 0, 9, BAD, 0, v -> fresh().picture(1, 199, 999, 999, v));
    }

    @Says(in = "Promise 13", value = "FULL.")
    static void p13Full() {
        PoleLogs x = fresh();
        fillRows(x, 119);
        due("the last", x.picture(0, 0, 1, 1, 1), 119);
        due("no room", x.picture(0, 0, 1, 1, 1), FULL);
        due("ROWS", x.count(2), 120);
    }

    @Says(in = "Promise 14", value = "A WORD: its ROW.")
    static void p14Word() {
        PoleLogs x = withMan();
        due("the first", x.word(0, 0, 0, -400, 399, 0), 0);
        due("the second", x.word(1, 199, 0, 399, -400, 200), 1);
        due("KIND", x.of(1, 0), 5);
    }

    @Says(in = "Promise 14", value = "NONE: log, day, man")
    static void p14None() {
        bounds("log", 0, 1, NONE, 0, log -> withMan().word(log, 0, 0, 0, 0, 0));
        bounds("day", 0, 199, NONE, 0, day -> withMan().word(1, day, 0, 0, 0, 0));
        bounds("man, one there", 0, 0, NONE, 0, man -> withMan().word(1, 0, man, 0, 0, 0));
        bounds("man, all there", 0, 11, NONE, 0, man -> twelve().word(1, 0, man, 0, 0, 0));
        due("man, none there", fresh().word(0, 0, 0, 0, 0, 0), NONE);
    }

    @Says(in = "Promise 14", value = "BAD: place, miles")
    static void p14Bad() {
        bounds("x", -400, 399, BAD, 0, v -> withMan().word(1, 199, 0, v, 399, 200));
        bounds("y", -400, 399, BAD, 0, v -> withMan().word(1, 199, 0, -400, v, 200));
        bounds("miles", 0, 200, BAD, 0, v -> withMan().word(1, 199, 0, -400, 399, v));
    }

    @Says(in = "Promise 14", value = "FULL.")
    static void p14Full() {
        PoleLogs x = withMan();
        fillRows(x, 119);
        due("the last", x.word(0, 0, 0, 1, 1, 1), 119);
        due("no room", x.word(0, 0, 0, 1, 1, 1), FULL);
        due("ROWS", x.count(2), 120);
    }

    @Says(in = "Promise 15", value = "HEIGHTS from a TAPE that is torn: how many came.")
    static void p15Torn() {
        PoleLogs x = withTape(SHORTS, -1, 0, 5400, -1, 5401);
        due("two of four", x.torn(0, 0, 0, 0, 4, 0), 2);
        due("none of one", x.torn(0, 0, 0, 4, 1, 0), 0);
        due("none that was taken", x.torn(0, 0, 0, 0, 1, 0), 0);
        due("ROWS", x.count(2), 2);
        due("the least", x.of(0, 4), 0);
        due("the greatest", x.of(1, 4), 5400);
        due("no MADE", x.of(0, 0), 2);
    }

    @Says(in = "Promise 15", value = "NONE: log, day, tape")
    static void p15None() {
        bounds("log", 0, 1, NONE, 1, log -> withTape(SHORTS, 5).torn(log, 0, 0, 0, 1, 0));
        bounds("day", 0, 199, NONE, 1, day -> withTape(SHORTS, 5).torn(0, day, 0, 0, 1, 0));
        bounds("tape", 0, 5, NONE, 0, tape -> fresh().torn(0, 0, tape, 0, 1, 0));
    }

    @Says(in = "Promise 15", value = "BAD: n (1 .. 40), error")
    static void p15Bad() {
        bounds("n, one there", 1, 40, BAD, 1, n -> withTape(SHORTS, 5).torn(0, 0, 0, 0, n, 0));
        bounds("n, nothing there", 1, 40, BAD, 0, n -> fresh().torn(0, 0, 0, 0, n, 0));
        bounds("error", 0, 60, BAD, 1, v -> withTape(SHORTS, 5).torn(0, 0, 0, 0, 1, v));
        PoleLogs x = fresh();
        x.tape(0, SHORTS, 60);
        due("40 of 60", x.torn(0, 0, 0, 0, 40, 60), 40);
        due("1 of 60", x.torn(0, 0, 0, 59, 1, 60), 1);
        due("ROWS", x.count(2), 41);
    }

    @Says(in = "Promise 15", value = "CAST: it is no row of shorts.")
    static void p15Cast() {
        for (int sort = 0; sort < 5; sort++) {
            due("sort " + sort, withTape(sort, 1).torn(0, 0, 0, 0, 1, 0), sort == SHORTS ? 1 : CAST);
            due("no such place, sort " + sort, withTape(sort, 1).torn(0, 0, 0, 1, 1, 0), sort == SHORTS ? 0 : CAST);
            due("an empty row, sort " + sort, withTape(sort).torn(0, 0, 0, 0, 1, 0), sort == SHORTS ? 0 : CAST);
        }
        PoleLogs x = withTape(INTS, 1);
        fillRows(x, 120);
        due("no room either", x.torn(0, 0, 0, 0, 1, 0), CAST);
    }

    private static PoleLogs oneOfEach() {
        PoleLogs x = withMan();
        x.man(2, 2);
        x.pass(9);
        x.march(1, 3, 5, 6, 7);
        x.height(0, 1, 100, 2, false);
        x.compass(1, 2, 11);
        x.picture(0, 4, 8, 9, 1);
        x.word(1, 5, 1, -6, 12, 13);
        x.height(0, 199, 0, 0, true);
        return x;
    }

    @Says(in = "Promise 16", value = "Of a ROW: what 0 KIND, 1 LOG, 2 DAY, 3 YEAR, 4 its first number (hours; minutes; points;"
        + " staff; MAN), 5 its second one (pace; error; -; shadow; x), 6 its third one (BEARING; -; -; tilt; y), 7 its fourth"
        + " one (miles of a WORD).")
    static void p16Of() {
        int[][] want = {{1, 1, 3, 9, 5, 6, 7}, {2, 0, 1, 9, 100, 2}, {3, 1, 2, 9, 11}, {4, 0, 4, 9, 8, 9, 1},
            {5, 1, 5, 9, 1, -6, 12, 13}, {6, 0, 199, 9, 0, 0}};
        PoleLogs x = oneOfEach();
        for (int row = 0; row < 6; row++) {
            for (int what = 0; what < want[row].length; what++) {
                due("of ROW " + row + " what " + what, x.of(row, what), want[row][what]);
            }
        }
    }

    @Says(in = "Promise 16", value = "NO: no such ROW, what, number.")
    static void p16No() {
        PoleLogs x = oneOfEach();
        int[] numbers = {3, 2, 1, 3, 4, 2};
        for (int row = 0; row < 6; row++) {
            for (int what = 4 + numbers[row]; what < 10; what++) {
                due("of ROW " + row + " what " + what, x.of(row, what), NO);
            }
            int r = row;
            tooSmall("what of ROW " + r, 0, NO, what -> x.of(r, what));
            tooLarge("what of ROW " + r, 7, NO, what -> x.of(r, what));
        }
        for (int what = -1; what < 9; what++) {
            int w = what;
            tooSmall("ROW", 0, NO, row -> x.of(row, w));
            tooLarge("ROW", 5, NO, row -> x.of(row, w));
        }
    }

    @Says(in = "Promise 17", value = "Whether a ROW FITS a PLACE (by its LOG as all told gives it): 1, 0.")
    static void p17Fits() {
        PoleLogs x = withStart(0, 0);
        x.compass(0, 0, 0);
        due("no MARCH", x.fits(0, 0, 0), 1);
        x.pass(20);
        x.march(0, 0, 2, 10, 1);
        due("a MARCH told later", x.fits(0, 0, 0), 0);
        due("that MARCH is BEYOND", x.fits(1, 0, 0), 0);
        x.compass(0, 0, 1);
        due("by that MARCH", x.fits(2, 0, 0), 1);
        x.march(1, 0, 0, 0, 7);
        due("by its own LOG", x.fits(2, 0, 0), 1);
        x.party(0, 0, 1, 0);
        x.march(0, 199, 3, 10, 0);
        due("the last DAY", x.fits(4, 0, 0), 0);
        x.party(0, 0, 2, 0);
        due("with a DOG more", x.fits(4, 0, 0), 1);
    }

    @Says(in = "Promise 17", value = "NONE: row")
    static void p17Row() {
        due("no ROWS", fresh().fits(0, 0, 0), NONE);
        bounds("row", 0, 119, NONE, 1, row -> fullOfHeights().fits(row, 0, 0));
    }

    private static PoleLogs fullOfHeights() {
        PoleLogs x = fresh();
        fillRows(x, 120);
        return x;
    }

    @Says(in = "Promise 17", value = "BAD: place.")
    static void p17Place() {
        PoleLogs x = oneOfEach();
        for (int row = 0; row < 6; row++) {
            int r = row;
            tooSmall("x for ROW " + r, -400, BAD, v -> x.fits(r, v, 0));
            tooLarge("x for ROW " + r, 399, BAD, v -> x.fits(r, v, 0));
            tooSmall("y for ROW " + r, -400, BAD, v -> x.fits(r, 0, v));
            tooLarge("y for ROW " + r, 399, BAD, v -> x.fits(r, 0, v));
            due("a corner", x.fits(r, -400, -400) >= 0 ? 1 : 0, 1);
            due("a corner", x.fits(r, 399, 399) >= 0 ? 1 : 0, 1);
        }
    }
}
