/** Terms, parts 4 to 6: heights, needles, shadows, needs, stories, the table, laws. A test for each sentence with an edge. */
public final class TermsStoriesLawsTest extends Edge {
    private static final int THERE = 0, NEAR = 1, NEVER = 2;

    public static void main(String[] args) throws Exception {
        runAll(TermsStoriesLawsTest.class);
    }

    // ---- 4

    @Says("LATITUDE of a PLACE: 5400 less the greater of both distances from THE POLE (by x, by y), less half the lesser"
        + " (cut), in minutes.")
    static void latitudes() {
        int[][] places = {{0, 0, 5400}, {1, 0, 5399}, {0, -1, 5399}, {1, 1, 5399}, {-2, 1, 5398}, {2, 2, 5397},
            {3, -3, 5396}, {3, -4, 5395}, {399, 399, 4802}, {-400, -400, 4800}, {399, -400, 4801}, {-400, 399, 4801},
            {-400, 0, 5000}, {0, 399, 5001}};
        for (int[] p : places) {
            due("LATITUDE of " + p[0] + ", " + p[1], fresh().latitude(p[0], p[1]), p[2]);
        }
    }

    /** Whether a HEIGHT of DAY 5 fits a place so many miles east of THE POLE. */
    private static int heightFits(int minutes, int error, int sun, int miles, boolean made) {
        PoleLogs x = fresh();
        x.sun(5, sun);
        x.height(0, 5, minutes, error, made);
        return x.fits(0, miles, 0);
    }

    @Says({"lets LATITUDES from 5400 less it plus SUN, less its error, to 5400 less it plus SUN, plus its error.",
        "It FITS a PLACE if it lets its LATITUDE."})
    static void whatAHeightLets() {
        due("error 0", heightFits(100, 0, 0, 100, false), 1);
        due("error 0, one less", heightFits(100, 0, 0, 101, false), 0);
        due("error 0, one more", heightFits(100, 0, 0, 99, false), 0);
        due("error 60, least", heightFits(100, 60, 0, 160, false), 1);
        due("error 60, below", heightFits(100, 60, 0, 161, false), 0);
        due("error 60, most", heightFits(100, 60, 0, 40, false), 1);
        due("error 60, above", heightFits(100, 60, 0, 39, false), 0);
        due("SUN 1500", heightFits(1600, 0, 1500, 100, false), 1);
        due("SUN 1500, off", heightFits(1600, 0, 1500, 101, false), 0);
        due("HEIGHT 0", heightFits(0, 0, 0, 0, false), 1);
        due("HEIGHT 0, SUN 60", heightFits(0, 60, 60, 0, false), 1);
        due("HEIGHT 0, SUN 61", heightFits(0, 60, 61, 0, false), 0);
        due("HEIGHT 5400, nowhere", heightFits(5400, 60, 1500, 399, false), 0);
    }

    @Says("(MADE, too, here and wherever HEIGHTS are told)")
    static void madeOnesToo() {
        due("at the edge", heightFits(100, 60, 0, 160, true), 1);
        due("below", heightFits(100, 60, 0, 161, true), 0);
        PoleLogs x = withClaim(0, 0, 0);
        x.height(0, 0, 0, 0, true);
        x.misprint(0, 0);
        due("shows a MISPRINT", x.made(0, 0), 1);
        due("made at home", x.made(0, 1), 1);
        due("h", holds(x, "h=1&k=1"), 1);
        x.height(0, 0, 1, 0, true);
        due("quarrels", x.quarrel(0), 1);
    }

    @Says("QUARREL of a LOG: the first two HEIGHTS (by numbers, the lesser first; MADE, too) of one DAY that let no"
        + " LATITUDE together.")
    static void quarrels() {
        int[][] pairs = {{100, 0, 100, 0, 0}, {100, 0, 101, 0, 1}, {100, 5, 110, 5, 0}, {100, 5, 111, 5, 1},
            {110, 5, 100, 5, 0}, {111, 5, 100, 5, 1}, {0, 60, 120, 60, 0}, {0, 60, 121, 60, 1}, {5400, 60, 0, 60, 1},
            {50, 0, 110, 60, 0}, {49, 0, 110, 60, 1}};
        for (int[] p : pairs) {
            PoleLogs x = fresh();
            x.sun(3, 1500);
            x.height(0, 3, p[0], p[1], false);
            x.height(0, 3, p[2], p[3], true);
            due(p[0] + " +- " + p[1] + " with " + p[2] + " +- " + p[3], x.quarrel(0), p[4] == 1 ? 1 : ANY);
        }
        PoleLogs x = fresh();
        x.height(0, 3, 100, 0, false);
        x.height(0, 4, 200, 0, false);
        x.height(1, 3, 200, 0, false);
        due("of other DAYS or LOGS", x.quarrel(0), ANY);
        x.height(0, 4, 201, 0, false);
        due("the only two", x.quarrel(0), 1003);
        x.height(0, 3, 101, 0, false);
        due("the lesser first one", x.quarrel(0), 4);
        x.height(0, 3, 102, 0, false);
        due("the lesser second one", x.quarrel(0), 4);
        fillRows(x, 118);
        x.height(0, 0, 0, 0, false);
        x.height(0, 0, 1, 0, false);
        due("still", x.quarrel(0), 4);
        PoleLogs last = fresh();
        fillRows(last, 118);
        last.height(0, 0, 0, 0, false);
        last.height(0, 0, 1, 0, true);
        due("the last two", last.quarrel(0), 118119);
    }

    /** Whether points fit THE POLE with a MARCH by a bearing (-1: none) and a TURN there. */
    private static int compassFits(int points, int bearing, int turn) {
        PoleLogs x = fresh();
        x.compass(0, 5, points);
        if (bearing >= 0) {
            x.march(0, 5, 0, 0, bearing);
        }
        x.march(0, 4, 0, 0, 6);
        x.march(1, 5, 0, 0, 6);
        x.ice(36, 1, turn);
        return x.fits(0, 0, 0);
    }

    @Says("A COMPASS of a DAY FITS a PLACE if its points are the BEARING of that DAY's MARCH (0 if there is none) and TURN"
        + " of the CELL, modulo 16.")
    static void compassModulo16() {
        for (int bearing = 0; bearing < 16; bearing++) {
            for (int turn : new int[] {-7, -1, 0, 1, 8}) {
                int points = (bearing + turn + 16) % 16;
                due(bearing + " and " + turn, compassFits(points, bearing, turn), 1);
                due(bearing + " and " + turn + ", off by 1", compassFits((points + 1) % 16, bearing, turn), 0);
            }
        }
        due("no MARCH", compassFits(0, -1, 0), 1);
        due("no MARCH, TURN -7", compassFits(9, -1, -7), 1);
        due("no MARCH, TURN 8", compassFits(8, -1, 8), 1);
        due("no MARCH, not that of another DAY or LOG", compassFits(6, -1, 0), 0);
    }

    @Says("HOME: points that are the BEARING itself, though TURN of the CELL of that DAY's PLACE on THE WAY is not 0.")
    static void home() {
        for (int turn : new int[] {-7, -1, 1, 8}) {
            PoleLogs x = fresh();
            x.march(0, 5, 0, 0, 6);
            x.compass(0, 5, 6);
            due("no TURN", x.home(0), 0);
            x.ice(12, 1, turn);
            due("TURN " + turn, x.home(0), 1);
            x.compass(0, 5, (6 + turn + 16) % 16);
            due("the points that are due", x.home(0), 1);
            x.compass(0, 6, 0);
            due("no MARCH: 0", x.home(0), 2);
            x.compass(0, 6, 6);
            due("no MARCH: not 0", x.home(0), 2);
            x.compass(1, 6, 0);
            due("the other LOG's", x.home(1), 1);
        }
        PoleLogs x = withStart(-1, 0);
        x.ice(36, 1, 1);
        x.march(0, 1, 1, 10, 4);
        x.compass(0, 0, 0);
        x.compass(0, 1, 4);
        due("behind the MARCH of that DAY", x.home(0), 1);
        x.compass(0, 199, 0);
        due("the last DAY", x.home(0), 2);
    }

    /** Whether a picture of DAY 5 fits a place so many miles north of THE POLE. */
    private static int pictureFits(int staff, int shadow, int tilt, int sun, int miles) {
        PoleLogs x = fresh();
        x.sun(5, sun);
        x.picture(0, 5, staff, shadow, tilt);
        return x.fits(0, 0, miles);
    }

    @Says("A PICTURE lets the sun's height in parts of 100: 100 staffs by shadow, cut, less tilt to that and tilt.")
    static void whatAPictureLets() {
        // 5 parts are 270 .. 323 minutes
        due("100 * 1 / 20 is 5", pictureFits(1, 20, 0, 0, 270), 1);
        due("100 * 1 / 17 is 5", pictureFits(1, 17, 0, 0, 270), 1);
        due("100 * 1 / 16 is 6", pictureFits(1, 16, 0, 0, 270), 0);
        due("100 * 1 / 21 is 4", pictureFits(1, 21, 0, 0, 270), 0);
        // 13 parts are 702 .. 755 minutes
        due("13900 / 994 is 13", pictureFits(139, 994, 0, 702, 0), 1);
        due("13900 / 993 is 13", pictureFits(139, 993, 0, 755, 0), 1);
        due("13900 / 992 is 14", pictureFits(139, 992, 0, 755, 0), 0);
        due("13900 / 992 is 14", pictureFits(139, 992, 0, 756, 0), 1);
        due("7 less 2", pictureFits(7, 100, 2, 0, 270), 1);
        due("8 less 2", pictureFits(8, 100, 2, 0, 270), 0);
        due("3 and 2", pictureFits(3, 100, 2, 0, 270), 1);
        due("2 and 2", pictureFits(2, 100, 2, 0, 270), 0);
        due("14 less 9", pictureFits(14, 100, 9, 0, 270), 1);
        due("15 less 9", pictureFits(15, 100, 9, 0, 270), 0);
        due("1 by 999 is 0", pictureFits(1, 999, 0, 0, 0), 1);
        due("0 less 9 to 9", pictureFits(1, 999, 9, 500, 39), 1);
        due("0 less 9 to 9", pictureFits(1, 999, 9, 500, 40), 0);
        due("999 by 1", pictureFits(999, 1, 9, 1500, 399), 0);
    }

    @Says("It FITS a PLACE if SUN of the DAY plus 5400 less LATITUDE, all this divided by 54 (cut), is in that.")
    static void pictureByLatitude() {
        due("53 is 0", pictureFits(1, 100, 0, 0, 53), 0);
        due("54 is 1", pictureFits(1, 100, 0, 0, 54), 1);
        due("107 is 1", pictureFits(1, 100, 0, 0, 107), 1);
        due("108 is 2", pictureFits(1, 100, 0, 0, 108), 0);
        due("SUN alone, 54", pictureFits(1, 100, 0, 54, 0), 1);
        due("SUN alone, 108", pictureFits(1, 100, 0, 108, 0), 0);
        due("both together, not each", pictureFits(1, 100, 0, 27, 27), 1);
        due("1500 is 27", pictureFits(27, 100, 0, 1500, 0), 1);
        due("1899 is 35", pictureFits(35, 100, 0, 1500, 399), 1);
    }

    /** Whether a WORD of (x, y) FITS a place. */
    private static int wordFits(int x, int y, int miles, int px, int py) {
        PoleLogs p = withMan();
        p.word(0, 0, 0, x, y, miles);
        return p.fits(0, px, py);
    }

    @Says("A WORD FITS a PLACE if both of its coordinates are no farther from its own than so many miles.")
    static void wordsReach() {
        due("there", wordFits(7, 8, 0, 7, 8), 1);
        due("a mile off in x", wordFits(7, 8, 0, 8, 8), 0);
        due("a mile off in y", wordFits(7, 8, 0, 7, 7), 0);
        for (int sx : new int[] {-1, 1}) {
            for (int sy : new int[] {-1, 1}) {
                due("both just so far", wordFits(7, 8, 5, 7 + 5 * sx, 8 + 5 * sy), 1);
                due("x farther", wordFits(7, 8, 5, 7 + 6 * sx, 8), 0);
                due("y farther", wordFits(7, 8, 5, 7, 8 + 6 * sy), 0);
            }
        }
        due("200 miles", wordFits(-400, 399, 200, -200, 199), 1);
        due("201 miles in x", wordFits(-400, 399, 200, -199, 199), 0);
        due("201 miles in y", wordFits(-400, 399, 200, -200, 198), 0);
        due("no way around the edge", wordFits(-400, 0, 200, 399, 0), 0);
    }

    @Says("A MARCH FITS a PLACE always if it is not BEYOND, else never.")
    static void marchesFitAlwaysOrNever() {
        int[][] places = {{0, 0}, {-400, -400}, {399, 399}, {0, -300}};
        PoleLogs x = fresh();
        x.party(0, 0, 5, 0);
        x.march(0, 0, 10, 10, 0);
        x.march(0, 1, 10, 11, 0);
        for (int[] p : places) {
            due("always", x.fits(0, p[0], p[1]), 1);
            due("never", x.fits(1, p[0], p[1]), 0);
        }
        due("in each STORY", x.falses(0, NEVER, 0, 0), 1);
        x.claim(0, 0, -290, 0);
        due("THERE", x.falses(0, THERE, 0, 0), 1);
        due("NEAR", x.falses(0, NEAR, 0, 0), 1);
    }

    @Says("by how much its PLACE is beyond PLACE of its DAY on THE WAY, each coordinate by the DAYS up to it (that DAY and"
        + " all ahead), cut down.")
    static void needsCutDown() {
        int[][] claims = {{0, 0, 0, 0}, {5, -5, 5, -5}, {5, -5, 2, -3}, {1, -1, 0, -1}, {-1, 1, -1, 0}, {4, -4, 2, -2}};
        int[] days = {0, 0, 1, 199, 199, 1};
        for (int i = 0; i < claims.length; i++) {
            int[] c = claims[i];
            PoleLogs x = withStart(0, 0);
            x.claim(0, c[0], c[1], days[i]);
            due("dx of claim " + i, x.needs(0, 0), c[2]);
            due("dy of claim " + i, x.needs(0, 1), c[3]);
        }
        PoleLogs x = withStart(-400, 399);
        x.claim(0, 399, -400, 0);
        due("most", x.needs(0, 0), 799);
        due("least", x.needs(0, 1), -799);
        PoleLogs y = withStart(0, 0);
        y.march(0, 1, 10, 10, 4);
        y.march(0, 2, 10, 60, 4);
        y.claim(0, 0, 0, 1);
        due("behind the MARCH of its DAY", y.needs(0, 0), -5);
        y.pass(1);
        y.march(0, 0, 10, 10, 4);
        due("by all that is told", y.needs(0, 0), -10);
    }

    @Says({"HELD: told rows of DRIFTS 0 .. 9 (two numbers, -30 .. 30 each)",
        "the first one that is no farther than 1 from NEEDS either way (-5: none)."})
    static void heldWithinOne() {
        for (int dx = -2; dx <= 2; dx++) {
            for (int dy = -2; dy <= 2; dy++) {
                boolean near = Math.abs(dx) < 2 && Math.abs(dy) < 2;
                due("off by " + dx + ", " + dy, heldBy(29, -29, 29 + dx, -29 + dy), near ? 0 : ANY);
            }
        }
        due("the least DRIFT", heldBy(-30, -30, -30, -30), 0);
        due("the greatest DRIFT", heldBy(30, 30, 30, 30), 0);
        due("30 for 31", heldBy(31, -31, 30, -30), 0);
        due("30 for 32", heldBy(32, 0, 30, 0), ANY);
        PoleLogs x = withStart(0, 0);
        x.claim(0, 5, 5, 0);
        fill(x, 0, BYTES, 7, 5, 3, 5, 5, 7, 5, 3, 6, 4, 5, 5, 4, 6, 5, 5, 5, 5, 5, 5);
        due("the first of several", x.held(0, 0, 10), 4);
        due("none of the first four", x.held(0, 0, 4), ANY);
    }

    private static int heldBy(int needX, int needY, int dx, int dy) {
        PoleLogs x = withStart(0, 0);
        x.claim(0, needX, needY, 0);
        fill(x, 0, BYTES, dx, dy);
        return x.held(0, 0, 1);
    }

    // ---- 5

    private static PoleLogs drifting() {
        PoleLogs x = withStart(0, 0);
        x.drift(36, 10, 10);
        x.claim(0, -200, -200, 3);
        return x;
    }

    @Says("0 THERE: on the CLAIM's DAY it was at its PLACE, on others where THE WAY is")
    static void there() {
        due("on its DAY", isAt(drifting(), THERE, 0, 3, -200, -200), 1);
        due("not on THE WAY then", isAt(drifting(), THERE, 0, 3, 40, 40), 0);
        due("the DAY ahead", isAt(drifting(), THERE, 0, 2, 30, 30), 1);
        due("the DAY behind", isAt(drifting(), THERE, 0, 4, 50, 50), 1);
        due("the first DAY", isAt(drifting(), THERE, 0, 0, 10, 10), 1);
        due("the last DAY", isAt(drifting(), THERE, 0, 199, 100, 100), 1);
        due("n is not for it", isAt(drifting(), THERE, 9, 4, 50, 50), 1);
    }

    @Says("1 NEAR: on all DAYS from the CLAIM's on it was where THE WAY is, less n miles of y (told; 0 .. 99)")
    static void near() {
        due("on its DAY", isAt(drifting(), NEAR, 7, 3, 40, 33), 1);
        due("the DAY behind", isAt(drifting(), NEAR, 7, 4, 50, 43), 1);
        due("the last DAY", isAt(drifting(), NEAR, 7, 199, 100, 93), 1);
        due("the DAY ahead on THE WAY", isAt(drifting(), NEAR, 7, 2, 30, 30), 1);
        due("n 0", isAt(drifting(), NEAR, 0, 3, 40, 40), 1);
        due("n 99", isAt(drifting(), NEAR, 99, 3, 40, -59), 1);
        bounds("n", 0, 99, BAD, 0, n -> drifting().falses(0, NEAR, n, 0));
        bounds("n of LEAST", 0, 99, BAD, 0, n -> drifting().least(0, n, 0));
    }

    @Says("2 NEVER: on all DAYS at START.")
    static void never() {
        for (int day : new int[] {0, 2, 3, 4, 199}) {
            due("on " + day, isAt(drifting(), NEVER, 0, day, 0, 0), 1);
            due("n is not for it", isAt(drifting(), NEVER, 99, day, 0, 0), 1);
        }
    }

    @Says("(Coordinates stay within -400 .. 399.)")
    static void nearStaysWithin() {
        PoleLogs low = withStart(5, -390);
        low.claim(0, 0, 0, 0);
        due("just at the edge", isAt(low, NEAR, 10, 0, 5, -400), 1);
        due("not below", isAt(low, NEAR, 11, 0, 5, -400), 1);
        PoleLogs lowest = withStart(-400, -400);
        lowest.claim(0, 0, 0, 0);
        due("99 below", isAt(lowest, NEAR, 99, 0, -400, -400), 1);
        due("a mile above the edge", isAt(low, NEAR, 9, 0, 5, -399), 1);
    }

    @Says("By a STORY ROWS of that LOG that do not FIT the PLACE of their DAY in it are FALSE.")
    static void falseRows() {
        PoleLogs x = withMan();
        due("no ROWS", x.falses(0, NEVER, 0, 0), 0);
        for (int i = 0; i < 60; i++) {
            x.word(0, i, 0, 0, 0, 0);
            x.word(1, i, 0, 0, -300, 0);
        }
        due("all", x.falses(0, NEVER, 0, 0), 60);
        due("none", x.falses(1, NEVER, 0, 0), 0);
    }

    @Says("LEAST: the STORY that has the fewest FALSE ones (of several the least).")
    static void leastOfSeveral() {
        due("no ROWS", withClaim(0, 0, 0).least(0, 5, 0), 0);
        PoleLogs x = withMan();
        x.claim(0, 9, 9, 0);
        x.word(0, 0, 0, 0, -300, 0);
        due("NEAR and NEVER", x.least(0, 0, 0), 1);
        due("NEVER", x.least(0, 1, 0), 2);
        x.word(0, 0, 0, 9, 9, 0);
        due("all alike", x.least(0, 0, 0), 0);
        due("THERE and NEVER", x.least(0, 1, 0), 0);
        x.word(0, 0, 0, 0, -301, 0);
        due("one for each", x.least(0, 1, 0), 0);
        x.word(0, 0, 0, 0, -301, 0);
        due("NEAR", x.least(0, 1, 0), 1);
        x.word(0, 0, 0, 9, 9, 0);
        due("THERE and NEAR", x.least(0, 1, 0), 0);
        PoleLogs y = withMan();
        y.drift(12, 1, 0);
        y.claim(0, 9, 9, 0);
        y.word(0, 0, 0, 1, -300, 0);
        due("FALSE in each", y.least(0, 1, 0), 0);
    }

    // ---- 6

    @Says("MISPRINTS among them: of a DAY a number (0 .. 1500) that is printed for it.")
    static void misprints() {
        tooSmall("MISPRINT", -1, BAD, v -> misprinted().misprint(5, v));
        tooLarge("MISPRINT", 1500, BAD, v -> misprinted().misprint(5, v));
        due("the least", misprinted().misprint(5, 0), 7);
        due("the greatest", misprinted().misprint(5, 1500), 7);
        PoleLogs x = fresh();
        for (int day = 0; day < 200; day++) {
            due("none on " + day, x.misprint(day, day), -1);
        }
        due("200 of them", x.count(6), 200);
        due("the last", x.misprint(199, -1), 199);
        due("199 of them", x.count(6), 199);
    }

    private static PoleLogs misprinted() {
        PoleLogs x = fresh();
        x.misprint(5, 7);
        return x;
    }

    @Says("A HEIGHT SHOWS a MISPRINT if it is just 5400 less LATITUDE of the CLAIM plus that number.")
    static void showsJustThat() {
        int[][] printed = {{0, 25}, {10, 35}, {1500, 1525}};
        for (int[] p : printed) {
            for (int off = -1; off <= 1; off++) {
                PoleLogs x = withClaim(10, -20, 2);
                x.misprint(7, p[0]);
                x.height(0, 7, p[1] + off, 60, false);
                due(p[0] + " off by " + off, x.made(0, 0), off == 0 ? 1 : 0);
            }
        }
        PoleLogs x = withClaim(0, 0, 2);
        x.height(0, 7, 0, 60, false);
        due("no MISPRINT is none of 0", x.made(0, 0), 0);
        x.misprint(6, 0);
        x.misprint(8, 0);
        due("of another DAY", x.made(0, 0), 0);
        x.misprint(7, 0);
        due("of its DAY", x.made(0, 0), 1);
    }

    @Says("MADE AT HOME of a LOG: HEIGHTS that are just so with SUN, or MISPRINT, of their DAY, as told there (none without"
        + " a CLAIM).")
    static void madeAtHome() {
        for (int off = -1; off <= 1; off++) {
            PoleLogs x = withClaim(10, -20, 2);
            x.sun(7, 100);
            x.misprint(7, 300);
            x.height(0, 7, 125 + off, 60, false);
            x.height(0, 7, 325 + off, 60, false);
            due("off by " + off, x.made(0, 1), off == 0 ? 2 : 0);
            x.misprint(7, 100);
            due("SUN and MISPRINT alike", x.made(0, 1), off == 0 ? 1 : 0);
            x.misprint(7, -1);
            due("SUN alone", x.made(0, 1), off == 0 ? 1 : 0);
            x.claim(0, 0, 0, -1);
            due("without a CLAIM", x.made(0, 1), STATE);
        }
        PoleLogs x = withClaim(0, 0, 0);
        x.height(0, 3, 0, 0, false);
        due("SUN of 0", x.made(0, 1), 1);
    }

    @Says("COMMITTEES 0 .. 5 have LAWS")
    static void committees() {
        bounds("law", 0, 5, NONE, 0, c -> law(fresh(), c, 0, "h=0"));
        bounds("says", 0, 5, NONE, 1, c -> lawful().says(c, 0, 0));
        PoleLogs x = withClaim(0, 0, 0);
        law(x, 5, 0, "h=0");
        for (int c = 0; c < 5; c++) {
            due("another's LAW", x.says(c, 0, 0), ANY);
        }
        due("its own", x.says(5, 0, 0), 1);
    }

    private static PoleLogs lawful() {
        PoleLogs x = withClaim(0, 0, 0);
        for (int c = 0; c < 6; c++) {
            law(x, c, 0, "h=0");
        }
        return x;
    }

    @Says("texts from a YEAR on, 12 in all")
    static void twelveLaws() {
        PoleLogs x = withClaim(0, 0, 0);
        for (int i = 0; i < 11; i++) {
            due("LAW", law(x, i % 6, i, "h>9"), i);
        }
        due("the last", law(x, 0, 99, "h=0"), 11);
        due("one more", law(x, 0, 99, "h>9"), FULL);
        due("LAWS", x.count(3), 12);
        due("the last one holds", x.says(0, 0, 99), 1);
        due("but only from its YEAR on", x.says(0, 0, 98), 0);
    }

    @Says("THE LAW of one in a YEAR: of those from that YEAR or earlier that with the greatest YEAR, of several the latest.")
    static void theLawInAYear() {
        PoleLogs x = withClaim(0, 0, 0);
        law(x, 0, 50, "h=0");
        due("a YEAR ahead", x.says(0, 0, 49), ANY);
        due("its YEAR", x.says(0, 0, 50), 1);
        due("the last YEAR", x.says(0, 0, 99), 1);
        law(x, 0, 40, "h>0");
        due("the greatest YEAR, not the latest LAW", x.says(0, 0, 50), 1);
        due("an earlier YEAR", x.says(0, 0, 49), 0);
        due("its YEAR", x.says(0, 0, 40), 0);
        due("a YEAR ahead", x.says(0, 0, 39), ANY);
        law(x, 0, 50, "h>0");
        due("of several the latest", x.says(0, 0, 50), 0);
        law(x, 0, 50, "h=0");
        due("and again", x.says(0, 0, 50), 1);
        law(x, 0, 0, "h=0");
        due("YEAR 0", x.says(0, 0, 0), 1);
        law(x, 0, 99, "h>0");
        due("YEAR 98", x.says(0, 0, 98), 1);
        due("YEAR 99", x.says(0, 0, 99), 0);
    }

    @Says("THE TEXT (bytes, 80 at most)")
    static void eightyBytes() {
        PoleLogs x = fresh();
        for (int i = 1; i <= 80; i++) {
            due("byte", x.feed('h', 1), i);
        }
        due("one more", x.feed('h', 1), FULL);
        due("bytes", x.count(4), 80);
        String eighty = "h=00" + "|h=1".repeat(19);
        due("80 bytes are a LAW", fault(eighty), -1);
        due("80 bytes that end too early", fault("h=0" + "|h=1".repeat(19) + "|"), 80);
        due("the 80th byte is none", fault(eighty.substring(0, 79) + "!"), 79);
        due("many digits, brackets", fault("(h=0)" + "&(h=1)".repeat(12)), -1);
    }

    @Says("E: T or T|E.")
    static void either() {
        due("a T", fault("h=1"), -1);
        due("two", fault("h=1|h=1"), -1);
        due("many", fault("h=1" + "|h=1".repeat(19)), -1);
        due("nothing ahead", fault("|h=1"), 0);
        due("nothing behind", fault("h=1|"), 4);
        due("nothing between", fault("h=1||h=1"), 4);
        due("0 or 0", holds(withClaim(0, 0, 0), "h=1|h=1"), 0);
        due("1 or 0", holds(withClaim(0, 0, 0), "h=0|h=1"), 1);
        due("0 or 1", holds(withClaim(0, 0, 0), "h=1|h=0"), 1);
        due("1 or 1", holds(withClaim(0, 0, 0), "h=0|h=0"), 1);
    }

    @Says("T: F or F&T.")
    static void both() {
        due("two", fault("h=1&h=1"), -1);
        due("many", fault("h=1" + "&h=1".repeat(19)), -1);
        due("nothing ahead", fault("&h=1"), 0);
        due("nothing behind", fault("h=1&"), 4);
        due("nothing between", fault("h=1&|h=1"), 4);
        due("0 and 0", holds(withClaim(0, 0, 0), "h=1&h=1"), 0);
        due("1 and 0", holds(withClaim(0, 0, 0), "h=0&h=1"), 0);
        due("0 and 1", holds(withClaim(0, 0, 0), "h=1&h=0"), 0);
        due("1 and 1", holds(withClaim(0, 0, 0), "h=0&h=0"), 1);
        due("ahead of or", holds(withClaim(0, 0, 0), "h=0|h=0&h=1"), 1);
        due("ahead of or, behind", holds(withClaim(0, 0, 0), "h=1&h=0|h=0"), 1);
    }

    @Says("F: !F, (E), or a TEST")
    static void single() {
        due("not", holds(withClaim(0, 0, 0), "!h=1"), 1);
        due("not not", holds(withClaim(0, 0, 0), "!!h=1"), 0);
        due("not is of one F", holds(withClaim(0, 0, 0), "!h=1&h=1"), 0);
        due("not of a bracket", holds(withClaim(0, 0, 0), "!(h=1&h=1)"), 1);
        due("brackets first", holds(withClaim(0, 0, 0), "(h=0|h=0)&h=1"), 0);
        due("an empty bracket", fault("()"), 1);
        due("not of nothing", fault("!"), 1);
        due("not of a close", fault("!)"), 1);
        due("not of an or", fault("!|"), 1);
        due("not closed", fault("(h=1"), 4);
        due("closed twice", fault("(h=1))"), 5);
        due("never opened", fault(")"), 0);
        due("never opened, behind", fault("h=1)"), 3);
        due("a bracket behind a bracket", fault("(h=1)(h=1)"), 5);
        due("a TEST behind a bracket", fault("(h=1)h=1"), 5);
        due("a TEST behind a TEST", fault("h=1h=1"), 3);
        due("not behind a TEST", fault("h=1!"), 3);
    }

    @Says("a letter, < or = or >, a number of 1 to 3 digits")
    static void tests() {
        String letters = "hcpwmfksq";
        for (int c = 0; c < 256; c++) {
            boolean letter = letters.indexOf(c) >= 0;
            boolean opens = c == '(' || c == '!';
            due("letter " + c, fault((char) c + "=1"), letter ? -1 : opens ? 1 : 0);
            boolean sign = c == '<' || c == '=' || c == '>';
            due("sign " + c, fault("h" + (char) c + "1"), sign ? -1 : 1);
            boolean digit = c >= '0' && c <= '9';
            due("digit " + c, fault("h=" + (char) c), digit ? -1 : 2);
            boolean joins = c == '&' || c == '|';
            due("behind a number " + c, fault("h=1" + (char) c), digit ? -1 : joins ? 4 : 3);
        }
        due("no number", fault("h="), 2);
        due("1 digit", fault("h=0"), -1);
        due("2 digits", fault("h=00"), -1);
        due("3 digits", fault("h=000"), -1);
        due("4 digits", fault("h=0000"), 5);
        due("4 digits, in a bracket", fault("(h=0000)"), 6);
        due("below 0", fault("h=-1"), 2);
        due("999", holds(withClaim(0, 0, 0), "h<999"), 1);
        due("001", holds(withClaim(0, 0, 0), "h<001"), 1);
        due("000", holds(withClaim(0, 0, 0), "h=000"), 1);
        PoleLogs x = withClaim(0, 0, 0);
        for (int i = 0; i < 12; i++) {
            x.man(1, 9);
        }
        x.party(0, 4095, 0, 0);
        due("108 is not less than 108", holds(x, "s<108"), 0);
        due("108 is 108", holds(x, "s=108"), 1);
        due("108 is not more than 108", holds(x, "s>108"), 0);
        due("108 is less than 109", holds(x, "s<109"), 1);
        due("108 is more than 107", holds(x, "s>107"), 1);
        due("108 is not 810", holds(x, "s=810"), 0);
    }

    @Says("h HEIGHTS that FIT THERE, c COMPASS likewise, p PICTURES, w WORDS, m MARCHES BEYOND, f FALSE by THERE, k MADE AT"
        + " HOME, s the SKILL of the PARTY together, q 1 if there is a QUARREL.")
    static void letters() {
        PoleLogs none = withClaim(0, 0, 0);
        due("nothing told", holds(none, "h=0&c=0&p=0&w=0&m=0&f=0&k=0&s=0&q=0"), 1);
        PoleLogs x = withClaim(0, 0, 0);
        x.man(1, 9);
        x.party(0, 1, 0, 0);
        fill(x, 0, SHORTS, 0);
        for (int i = 0; i < 2; i++) {
            x.compass(0, 0, i);
            x.picture(0, 0, i == 0 ? 1 : 999, 999, 0);
            x.word(0, 0, 0, 0, i, 0);
            x.march(0, i, 10, 2 + 2 * i, 0);
        }
        due("one of each", holds(x, "h=0&c=1&p=1&w=1&m=1&f=4&k=0&s=9&q=0"), 1);
        for (int i = 0; i < 8; i++) {
            x.torn(0, 0, 0, 0, 1, 0);
        }
        x.height(0, 0, 1, 0, true);
        due("HEIGHTS", holds(x, "h=8&c=1&p=1&w=1&m=1&f=5&k=8&s=9&q=1"), 1);
        PoleLogs all = withClaim(0, 0, 0);
        all.tape(0, SHORTS, 1);
        for (int i = 0; i < 120; i++) {
            all.torn(0, 0, 0, 0, 1, 0);
        }
        due("120 of them", holds(all, "h=120&k=120&f=0&q=0"), 1);
        PoleLogs late = withMan();
        late.claim(0, 0, 0, 0);
        late.party(0, 1, 0, 0);
        late.march(0, 199, 1, 10, 0);
        late.word(0, 199, 0, 0, -299, 0);
        due("the last DAY", holds(late, "w=1&f=0&m=0"), 1);
    }

    @Says("A ( or ! within 4 others is none.")
    static void fourDeep() {
        due("4 brackets", fault("((((h=1))))"), -1);
        due("5 brackets", fault("(((((h=1)))))"), 4);
        due("4 nots", fault("!!!!h=1"), -1);
        due("5 nots", fault("!!!!!h=1"), 4);
        due("4 of both", fault("!(!(h=1))"), -1);
        due("a not within 4", fault("!(!(!h=1))"), 4);
        due("a bracket within 4", fault("(!(!(h=1)))"), 4);
        due("not within what is closed", fault("((((h=1))))&((((h=1))))|!!!!h=1"), -1);
        due("a not ends with its F", fault("!!!!h=1&!!!!h=1"), -1);
        due("a not around a bracket ends with it", fault("!((!h=1))|!((!h=1))"), -1);
        due("behind a closed one, within 3", fault("(((h=1)|(h=1)|!h=1))"), -1);
        due("behind a closed one, within 4", fault("((((h=1)|h=1)&(h=1|(h=1))))"), -1);
        due("behind a closed one, a fifth", fault("((((h=1)|(h=1&(h=1)))))"), 14);
    }

    @Says("The FAULT: the place of the first byte with which none begins so")
    static void firstFault() {
        due("the first byte", fault("x=1"), 0);
        due("the first of several", fault("h=1)x&&"), 3);
        due("a byte of 0", fault("\0"), 0);
        due("a byte of 255", fault("h\u00ff"), 1);
        due("a byte of 255 in a number", fault("h=1\u00ff"), 3);
        due("a capital", fault("H=1"), 0);
        due("a space", fault("h =1"), 1);
        due("a space behind", fault("h=1 "), 3);
        due("the depth ahead of the end", fault("((((("), 4);
    }

    @Says("(the end of THE TEXT, if it ends too early).")
    static void endsTooEarly() {
        String[] texts = {"", "h", "h=", "h=1|", "h=1&", "!", "(", "(h", "(h=1", "(h=1|", "((((", "((((h=1)))", "!!!!",
            "h=1&!(c>999|p<0"};
        for (String text : texts) {
            due("end of '" + text + "'", fault(text), text.length());
        }
    }

    @Says("SAYS: whether E holds for a LOG, by what was told up to a YEAR: ROWS of greater YEARS are as if they were not, for"
        + " THE WAY, too")
    static void greaterYearsAreNot() {
        PoleLogs x = withMan();
        x.claim(0, 0, -290, 5);
        String text = "h=0&c=0&p=0&w=0&m=0&f=0&k=0&q=0";
        law(x, 0, 0, text);
        law(x, 1, 0, "w=1&c=1");
        x.pass(7);
        x.height(0, 5, 10, 0, false);
        x.height(0, 5, 290, 0, true);
        x.picture(0, 5, 999, 1, 0);
        x.word(0, 9, 0, 0, -300, 0);
        x.compass(0, 9, 0);
        due("the YEAR ahead", x.says(0, 0, 6), 1);
        due("that YEAR", x.says(0, 0, 7), 0);
        due("the WORD and the COMPASS fit", x.says(1, 0, 7), 1);
        x.pass(1);
        x.march(0, 9, 10, 10, 1);
        due("THE WAY without the MARCH", x.says(1, 0, 7), 1);
        due("THE WAY with it", x.says(1, 0, 8), 0);
    }

    @Says("(so in all that is asked by a YEAR; -5: it has no LAW, or the LOG no CLAIM).")
    static void byAYear() {
        PoleLogs x = withMan();
        x.claim(0, 0, -290, 5);
        x.word(0, 5, 0, 0, -300, 0);
        x.pass(3);
        x.march(0, 5, 1, 30, 0);
        x.word(0, 5, 0, 0, -290, 0);
        due("falses ahead", x.falses(0, NEAR, 0, 2), 0);
        due("falses then", x.falses(0, NEAR, 0, 3), 3);
        due("NEVER ahead", x.falses(0, NEVER, 0, 2), 0);
        due("NEVER then", x.falses(0, NEVER, 0, 3), 2);
        due("least ahead", x.least(0, 0, 2), 1);
        due("least then", x.least(0, 0, 3), 0);
        due("place ahead", x.place(0, 5, 2), place(0, -300));
        due("place then", x.place(0, 5, 3), place(0, -297));
        due("no LAW", x.says(0, 0, 99), ANY);
        law(x, 0, 4, "h=0");
        due("no LAW yet", x.says(0, 0, 3), ANY);
        due("a LAW", x.says(0, 0, 4), 1);
        due("no CLAIM", x.says(0, 1, 4), ANY);
        x.claim(0, 0, 0, -1);
        due("no CLAIM any more", x.says(0, 0, 4), ANY);
    }
}
