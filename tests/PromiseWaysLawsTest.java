/** Promises 18 to 36: ways, stories, home, committees, looks. Each clause of each promise has its test. */
public final class PromiseWaysLawsTest extends Edge {
    public static void main(String[] args) throws Exception {
        runAll(PromiseWaysLawsTest.class);
    }

    @Says(in = "Promise 18", value = "PLACE of a DAY on THE WAY of a LOG by a YEAR: 1000 times x and 400, and y and 400.")
    static void p18Place() {
        int[][] places = {{-400, -400, 0}, {-400, 399, 799}, {399, -400, 799000}, {399, 399, 799799}, {0, 0, 400400}};
        for (int[] p : places) {
            due("at " + p[0] + ", " + p[1], withStart(p[0], p[1]).place(0, 199, 0), p[2]);
            due("DAY -1", withStart(p[0], p[1]).place(0, -1, 99), p[2]);
        }
    }

    @Says(in = "Promise 18", value = "NONE: log, day (-1 .. 199), year.")
    static void p18None() {
        bounds("log", 0, 1, NONE, 400100, log -> fresh().place(log, 0, 0));
        bounds("day", -1, 199, NONE, 400100, day -> fresh().place(1, day, 0));
        bounds("year", 0, 99, NONE, 400100, year -> fresh().place(1, 0, year));
        due("a YEAR that is to come", fresh().place(0, 0, 99), 400100);
    }

    @Says(in = "Promise 19", value = "CAN of a DAY on THE WAY of a LOG (by all that is told).")
    static void p19Can() {
        PoleLogs x = withStart(0, 99);
        x.party(0, 0, 50, 0);
        x.ice(44, 0, 9);
        due("no MARCH", x.can(0, 1), 100);
        x.pass(20);
        x.march(0, 0, 1, 10, 0);
        due("told in a later YEAR", x.can(0, 1), 64);
        due("the DAY of the MARCH", x.can(0, 0), 100);
        due("the other LOG", x.can(1, 1), 0);
    }

    @Says(in = "Promise 19", value = "NONE: log, day.")
    static void p19None() {
        bounds("log", 0, 1, NONE, 0, log -> fresh().can(log, 0));
        bounds("day", 0, 199, NONE, 0, day -> fresh().can(1, day));
    }

    @Says(in = "Promise 20", value = "How many MARCHES are BEYOND (what 0), the DAY of MOST BEYOND (1; -5: none is).")
    static void p20Beyond() {
        PoleLogs x = fresh();
        due("no MARCHES", x.beyond(0, 0), 0);
        due("no MARCHES", x.beyond(0, 1), -5);
        x.march(0, 0, 0, 60, 0);
        due("of 0 MILES", x.beyond(0, 0), 0);
        due("of 0 MILES", x.beyond(0, 1), -5);
        x.march(0, 199, 1, 10, 0);
        due("one", x.beyond(0, 0), 1);
        due("the last DAY", x.beyond(0, 1), 199);
        x.pass(1);
        x.march(0, 1, 1, 20, 0);
        due("two", x.beyond(0, 0), 2);
        due("told later", x.beyond(0, 1), 1);
        due("the other LOG", x.beyond(1, 0), 0);
        due("the other LOG", x.beyond(1, 1), -5);
        PoleLogs y = fresh();
        for (int day = 0; day < 120; day++) {
            y.march(1, day, 1, 10, day % 16);
        }
        due("all", y.beyond(1, 0), 120);
        due("DAY 0", y.beyond(1, 1), 0);
    }

    @Says(in = "Promise 20", value = "NONE: log, what.")
    static void p20None() {
        bounds("log", 0, 1, NONE, 0, log -> fresh().beyond(log, 0));
        bounds("log", 0, 1, NONE, ANY, log -> fresh().beyond(log, 1));
        tooSmall("what", 0, NONE, what -> fresh().beyond(0, what));
        tooLarge("what", 1, NONE, what -> fresh().beyond(0, what));
    }

    @Says(in = "Promise 21", value = "LATITUDE of a PLACE.")
    static void p21Latitude() {
        due("THE POLE", fresh().latitude(0, 0), 5400);
        due("the least", fresh().latitude(-400, -400), 4800);
        due("a corner", fresh().latitude(399, 399), 4802);
        due("half of 1", fresh().latitude(1, -2), 5398);
    }

    @Says(in = "Promise 21", value = "BAD.")
    static void p21Bad() {
        tooSmall("x", -400, BAD, v -> fresh().latitude(v, 0));
        tooLarge("x", 399, BAD, v -> fresh().latitude(v, 0));
        tooSmall("y", -400, BAD, v -> fresh().latitude(0, v));
        tooLarge("y", 399, BAD, v -> fresh().latitude(0, v));
    }

    @Says(in = "Promise 22", value = "QUARREL of a LOG: 1000 times the lesser ROW, and the other one; -5: there is none.")
    static void p22Quarrel() {
        PoleLogs x = fresh();
        due("no HEIGHTS", x.quarrel(0), -5);
        x.height(0, 0, 10, 0, false);
        due("one HEIGHT", x.quarrel(0), -5);
        x.compass(0, 0, 9);
        x.height(0, 0, 9, 0, true);
        due("0 and 2", x.quarrel(0), 2);
        x.height(1, 0, 9, 0, true);
        x.height(1, 0, 8, 1, true);
        due("they touch", x.quarrel(1), -5);
        x.pass(20);
        x.height(1, 0, 8, 0, false);
        due("told later", x.quarrel(1), 3005);
    }

    @Says(in = "Promise 22", value = "NONE.")
    static void p22None() {
        bounds("log", 0, 1, NONE, ANY, log -> fresh().quarrel(log));
    }

    @Says(in = "Promise 23", value = "How many COMPASS ROWS of a LOG are HOME.")
    static void p23Home() {
        PoleLogs x = fresh();
        due("no ROWS", x.home(0), 0);
        x.ice(12, 1, 1);
        for (int i = 0; i < 120; i++) {
            x.compass(0, 199, 0);
        }
        due("all", x.home(0), 120);
        due("the other LOG", x.home(1), 0);
        x.ice(12, 1, 0);
        due("no TURN", x.home(0), 0);
        PoleLogs y = withMan();
        y.ice(12, 1, 1);
        y.word(0, 0, 0, 0, 0, 0);
        y.height(0, 0, 0, 0, false);
        due("no COMPASS", y.home(0), 0);
    }

    @Says(in = "Promise 23", value = "NONE.")
    static void p23None() {
        bounds("log", 0, 1, NONE, 0, log -> fresh().home(log));
    }

    @Says(in = "Promise 24", value = "NEEDS of a LOG: what 0 dx, 1 dy.")
    static void p24Needs() {
        PoleLogs x = withClaim(10, -310, 2);
        due("dx cut down", x.needs(0, 0), 3);
        due("dy cut down", x.needs(0, 1), -4);
        x.claim(0, 0, -300, 199);
        due("nothing", x.needs(0, 0), 0);
        due("nothing", x.needs(0, 1), 0);
        x.claim(0, 199, -301, 199);
        due("199 in 200 DAYS", x.needs(0, 0), 0);
        due("-1 in 200 DAYS", x.needs(0, 1), -1);
        x.claim(0, 200, -100, 199);
        due("200 in 200 DAYS", x.needs(0, 0), 1);
        due("200 in 200 DAYS", x.needs(0, 1), 1);
    }

    @Says(in = "Promise 24", value = "NO: log, what; no CLAIM.")
    static void p24No() {
        tooSmall("log", 0, NO, log -> bothClaim().needs(log, 0));
        tooLarge("log", 1, NO, log -> bothClaim().needs(log, 0));
        tooSmall("what", 0, NO, what -> bothClaim().needs(1, what));
        tooLarge("what", 1, NO, what -> bothClaim().needs(1, what));
        due("no CLAIM", fresh().needs(0, 0), NO);
        due("no CLAIM of this LOG", withClaim(0, 0, 0).needs(1, 1), NO);
        PoleLogs x = withClaim(0, 0, 0);
        x.claim(0, 0, 0, -1);
        due("no CLAIM any more", x.needs(0, 1), NO);
    }

    private static PoleLogs bothClaim() {
        PoleLogs x = withClaim(0, -300, 0);
        x.claim(1, 0, -300, 0);
        return x;
    }

    private static PoleLogs holding(int sort, int size) {
        PoleLogs x = bothClaim();
        x.tape(0, sort, size);
        return x;
    }

    @Says(in = "Promise 25", value = "HELD: the first of rows 0 .. n - 1 on a TAPE of bytes (dx at 2 k, dy at 2 k + 1): -5: none.")
    static void p25Held() {
        for (int k = 0; k < 10; k++) {
            PoleLogs x = holding(BYTES, 20);
            for (int i = 0; i < 20; i++) {
                x.item(0, i, 2);
            }
            due("none of ten", x.held(0, 0, 10), -5);
            x.item(0, 2 * k, 1);
            due("dx alone", x.held(0, 0, 10), -5);
            x.item(0, 2 * k + 1, -1);
            due("row " + k, x.held(0, 0, 10), k);
            due("the last asked for", x.held(0, 0, k + 1), k);
            if (k > 0) {
                due("not asked for", x.held(0, 0, k), -5);
            }
            x.item(0, 2 * k, 2);
            due("dy alone", x.held(0, 0, 10), -5);
        }
    }

    @Says(in = "Promise 25", value = "NONE: log, tape")
    static void p25None() {
        bounds("log", 0, 1, NONE, 0, log -> holding(BYTES, 2).held(log, 0, 1));
        bounds("tape", 0, 5, NONE, NOTHING, tape -> bothClaim().held(0, tape, 1));
    }

    @Says(in = "Promise 25", value = "BAD: n (1 .. 10)")
    static void p25Bad() {
        bounds("n", 1, 10, BAD, 0, n -> holding(BYTES, 60).held(0, 0, n));
    }

    @Says(in = "Promise 25", value = "STATE: no CLAIM")
    static void p25State() {
        PoleLogs x = holding(BYTES, 60);
        x.claim(0, 0, 0, -1);
        due("gone", x.held(0, 0, 1), STATE);
        due("the other LOG's", x.held(1, 0, 1), 0);
        due("never told", withTape(BYTES, 0, 0).held(1, 0, 1), STATE);
    }

    @Says(in = "Promise 25", value = "NOTHING")
    static void p25Nothing() {
        PoleLogs x = holding(BYTES, 60);
        due("never made", x.held(0, 5, 10), NOTHING);
        x.tape(0, -1, 0);
        due("gone", x.held(0, 0, 1), NOTHING);
    }

    @Says(in = "Promise 25", value = "CAST")
    static void p25Cast() {
        for (int sort = 1; sort < 5; sort++) {
            due("sort " + sort, holding(sort, 60).held(0, 0, 10), CAST);
            due("too short, sort " + sort, holding(sort, 0).held(0, 0, 10), CAST);
        }
    }

    @Says(in = "Promise 25", value = "PLACE: it has fewer items.")
    static void p25Place() {
        for (int n = 1; n <= 10; n++) {
            due("just as many as " + n + " rows have", holding(BYTES, 2 * n).held(0, 0, n), 0);
            due("one fewer", holding(BYTES, 2 * n - 1).held(0, 0, n), PLACE);
        }
        due("an empty row", holding(BYTES, 0).held(0, 0, 1), PLACE);
    }

    @Says(in = "Promise 26", value = "How many ROWS a STORY of a LOG calls FALSE, by a YEAR, with n for NEAR.")
    static void p26Falses() {
        PoleLogs x = withMan();
        x.claim(0, 9, 9, 5);
        for (int story = 0; story < 3; story++) {
            due("no ROWS", x.falses(0, story, 0, 0), 0);
        }
        x.pass(2);
        x.word(0, 5, 0, 0, -399, 0);
        due("the YEAR ahead", x.falses(0, 1, 0, 1), 0);
        due("that YEAR", x.falses(0, 1, 0, 2), 1);
        due("the last YEAR", x.falses(0, 1, 0, 99), 1);
        due("n 99", x.falses(0, 1, 99, 2), 0);
        due("n 98", x.falses(0, 1, 98, 2), 1);
        due("n not for THERE", x.falses(0, 0, 99, 2), 1);
        due("n not for NEVER", x.falses(0, 2, 99, 2), 1);
        due("the other LOG", x.falses(1, 2, 0, 2), 0);
    }

    @Says(in = "Promise 26", value = "NONE: log, story, year")
    static void p26None() {
        bounds("log", 0, 1, NONE, 0, log -> bothClaim().falses(log, 0, 0, 0));
        bounds("story", 0, 2, NONE, 0, story -> bothClaim().falses(0, story, 0, 0));
        bounds("year", 0, 99, NONE, 0, year -> bothClaim().falses(0, 1, 0, year));
    }

    @Says(in = "Promise 26", value = "BAD: n")
    static void p26Bad() {
        for (int story = 0; story < 3; story++) {
            int s = story;
            bounds("n of STORY " + s, 0, 99, BAD, 0, n -> bothClaim().falses(0, s, n, 0));
        }
    }

    @Says(in = "Promise 26", value = "STATE: no CLAIM (not for NEVER).")
    static void p26State() {
        PoleLogs x = withClaim(0, 0, 0);
        due("THERE", x.falses(1, 0, 0, 0), STATE);
        due("NEAR", x.falses(1, 1, 0, 0), STATE);
        due("NEVER", x.falses(1, 2, 0, 0), 0);
        x.compass(1, 0, 5);
        due("NEVER", x.falses(1, 2, 0, 0), 1);
        due("NEVER, but n is BAD", x.falses(1, 2, 100, 0), BAD);
    }

    @Says(in = "Promise 27", value = "LEAST, by a YEAR, with n for NEAR.")
    static void p27Least() {
        PoleLogs x = withMan();
        x.claim(0, 9, 9, 5);
        due("no ROWS", x.least(0, 99, 0), 0);
        x.pass(2);
        x.word(0, 5, 0, 0, -399, 0);
        due("the YEAR ahead", x.least(0, 99, 1), 0);
        due("that YEAR", x.least(0, 99, 2), 1);
        due("another n", x.least(0, 98, 2), 0);
        x.pass(1);
        x.word(0, 4, 0, 0, -300, 0);
        x.march(0, 0, 1, 10, 0);
        due("THE WAY by that YEAR", x.least(0, 98, 3), 2);
        due("the YEAR ahead", x.least(0, 98, 2), 0);
        PoleLogs y = withMan();
        y.party(0, 1, 0, 0);
        y.claim(0, 0, 0, 0);
        y.march(0, 199, 1, 10, 0);
        y.word(0, 199, 0, 0, -304, 0);
        due("the last DAY", y.least(0, 5, 0), 1);
        due("another n", y.least(0, 4, 0), 0);
    }

    @Says(in = "Promise 27", value = "NONE: log, year")
    static void p27None() {
        bounds("log", 0, 1, NONE, 0, log -> bothClaim().least(log, 0, 0));
        bounds("year", 0, 99, NONE, 0, year -> bothClaim().least(1, 0, year));
    }

    @Says(in = "Promise 27", value = "BAD: n")
    static void p27Bad() {
        bounds("n", 0, 99, BAD, 0, n -> bothClaim().least(1, n, 0));
    }

    @Says(in = "Promise 27", value = "STATE: no CLAIM.")
    static void p27State() {
        PoleLogs x = withClaim(0, 0, 0);
        due("the other LOG", x.least(1, 0, 0), STATE);
        due("with one", x.least(0, 0, 0), 0);
        x.claim(0, 0, 0, -1);
        due("gone", x.least(0, 0, 0), STATE);
    }

    @Says(in = "Promise 28", value = "MISPRINT of a DAY (v -1: there is none): what it was.")
    static void p28Misprint() {
        PoleLogs x = fresh();
        due("none", x.misprint(199, -1), -1);
        due("still none", x.misprint(199, 0), -1);
        due("0", x.misprint(199, 1500), 0);
        due("one", x.count(6), 1);
        due("1500", x.misprint(199, -1), 1500);
        due("none again", x.count(6), 0);
        due("none again", x.misprint(199, 5), -1);
        due("of each DAY its own", x.misprint(198, 5), -1);
        due("two", x.count(6), 2);
        due("no SUN", x.sun(199, 0), 0);
    }

    @Says(in = "Promise 28", value = "NONE: day")
    static void p28Day() {
        bounds("day", 0, 199, NONE, 1500, day -> printed().misprint(day, 3));
        due("no day", printed().misprint(200, -1), NONE);
    }

    private static PoleLogs printed() {
        PoleLogs x = fresh();
        x.misprint(0, 1500);
        x.misprint(199, 1500);
        return x;
    }

    @Says(in = "Promise 28", value = "BAD.")
    static void p28Bad() {
        bounds("v", -1, 1500, BAD, 1500, v -> printed().misprint(199, v));
    }

    @Says(in = "Promise 29", value = "HEIGHTS of a LOG (MADE ones, too): what 0 that SHOW a MISPRINT, 1 MADE AT HOME.")
    static void p29Made() {
        PoleLogs x = withClaim(0, 0, 3);
        x.claim(1, 0, 0, 3);
        due("no HEIGHTS", x.made(0, 0), 0);
        due("no HEIGHTS", x.made(0, 1), 0);
        x.sun(199, 1500);
        x.misprint(199, 0);
        x.height(0, 199, 0, 60, false);
        x.height(0, 199, 0, 60, true);
        x.height(0, 199, 1500, 60, true);
        x.height(0, 199, 1499, 60, false);
        x.compass(0, 199, 0);
        due("show", x.made(0, 0), 2);
        due("at home", x.made(0, 1), 3);
        due("the other LOG", x.made(1, 1), 0);
        x.pass(1);
        x.height(0, 199, 1500, 0, false);
        due("told later", x.made(0, 1), 4);
        PoleLogs y = withClaim(0, 0, 3);
        y.tape(0, SHORTS, 40);
        for (int i = 0; i < 3; i++) {
            y.torn(0, 0, 0, 0, 40, 0);
        }
        due("all", y.made(0, 1), 120);
    }

    @Says(in = "Promise 29", value = "NONE: log, what")
    static void p29None() {
        bounds("log", 0, 1, NONE, 0, log -> bothClaim().made(log, 0));
        bounds("what", 0, 1, NONE, 0, what -> bothClaim().made(1, what));
    }

    @Says(in = "Promise 29", value = "STATE: no CLAIM.")
    static void p29State() {
        PoleLogs x = withClaim(0, 0, 0);
        x.height(1, 0, 0, 0, false);
        due("what 0", x.made(1, 0), STATE);
        due("what 1", x.made(1, 1), STATE);
        x.claim(0, 0, 0, -1);
        due("gone", x.made(0, 0), STATE);
    }

    @Says(in = "Promise 30", value = "The n lowest bytes of a number, the highest first (n 0 .. 4), come behind THE TEXT's: how"
        + " many it has.")
    static void p30Feed() {
        PoleLogs x = withClaim(0, 0, 0);
        due("none", x.feed(-1, 0), 0);
        due("four", x.feed('h' << 24 | '<' << 16 | '1' << 8 | '|', 4), 4);
        due("three", x.feed(0xff << 24 | 'h' << 16 | '>' << 8 | '9', 3), 7);
        due("two", x.feed(0xffff << 16 | '&' << 8 | 'h', 2), 9);
        due("one", x.feed(0xffffff << 8 | '=', 1), 10);
        due("none", x.feed('!', 0), 10);
        due("one", x.feed('9', 1), 11);
        due("a LAW", x.law(0, 0), 0);
        due("that says", x.says(0, 0, 0), 1);
        due("a byte of 255", x.feed(-1, 1), 1);
        due("is none", x.law(0, 0), -10);
        due("below 0", x.feed(MIN | 'h' << 16 | '=' << 8 | '0', 3), 3);
        due("a LAW", x.law(0, 0), 1);
    }

    @Says(in = "Promise 30", value = "BAD")
    static void p30Bad() {
        tooSmall("n", 0, BAD, n -> fresh().feed('h', n));
        tooLarge("n", 4, BAD, n -> fresh().feed('h', n));
        due("n 0", fresh().feed('h', 0), 0);
        due("n 4", fresh().feed('h', 4), 4);
    }

    @Says(in = "Promise 30", value = "FULL.")
    static void p30Full() {
        for (int room = 0; room <= 4; room++) {
            PoleLogs x = fresh();
            String text = "h=00|h=000" + "|h=1".repeat(17);
            feed(x, text.substring(0, 78 - room));
            for (int n = 0; n <= 4; n++) {
                if (n > room + 2) {
                    due("room for " + (room + 2) + ", not " + n, x.feed(-1, n), FULL);
                    due("as it was", x.count(4), 78 - room);
                }
            }
            feed(x, text.substring(78 - room));
            due("78", x.count(4), 78);
            due("three more", x.feed(-1, 3), FULL);
            due("two more", x.feed('|' << 8 | '!', 2), 80);
            due("one more", x.feed(0, 1), FULL);
            due("none more", x.feed(0, 0), 80);
            due("ends too early", x.law(0, 0), -90);
            due("room again", x.feed(0, 4), 4);
        }
    }

    @Says(in = "Promise 31", value = "THE TEXT, which is empty then, is a LAW of a COMMITTEE from a YEAR on: its number")
    static void p31Law() {
        PoleLogs x = withClaim(0, 0, 0);
        due("the first", law(x, 5, 99, "h=0"), 0);
        due("empty then", x.count(4), 0);
        due("the second", law(x, 0, 0, "h=1"), 1);
        due("empty then", x.count(4), 0);
        due("LAWS", x.count(3), 2);
        due("of the COMMITTEE, from the YEAR on", x.says(5, 0, 99), 1);
        due("the YEAR ahead", x.says(5, 0, 98), ANY);
        due("YEAR 0", x.says(0, 0, 0), 0);
        due("an empty TEXT is none", x.law(0, 0), -10);
        due("LAWS", x.count(3), 2);
    }

    @Says(in = "Promise 31", value = "NONE: committee")
    static void p31Committee() {
        bounds("committee", 0, 5, NONE, 0, c -> law(fresh(), c, 0, "h=0"));
    }

    @Says(in = "Promise 31", value = "BAD: year")
    static void p31Year() {
        bounds("year", 0, 99, BAD, 0, year -> law(fresh(), 5, year, "h=0"));
    }

    @Says(in = "Promise 31", value = "FULL: there are 12 (THE TEXT stays with these)")
    static void p31Full() {
        PoleLogs x = fresh();
        for (int i = 0; i < 11; i++) {
            due("room", law(x, 0, 0, "h=0"), i);
        }
        feed(x, "h=0");
        due("no COMMITTEE", x.law(6, 0), NONE);
        due("THE TEXT stays", x.count(4), 3);
        due("no YEAR", x.law(0, 100), BAD);
        due("THE TEXT stays", x.count(4), 3);
        due("the twelfth, with what stayed", x.law(0, 0), 11);
        feed(x, "h=0");
        due("no room", x.law(0, 0), FULL);
        due("THE TEXT stays", x.count(4), 3);
        feed(x, "&");
        due("no room, though there is a FAULT", x.law(0, 0), FULL);
        due("THE TEXT stays", x.count(4), 4);
        due("LAWS", x.count(3), 12);
    }

    @Says(in = "Promise 31", value = "-10 less the FAULT.")
    static void p31Fault() {
        PoleLogs x = fresh();
        due("0", law(x, 0, 0, "?"), -10);
        due("empty then", x.count(4), 0);
        due("79", law(x, 0, 0, "h=00" + "|h=1".repeat(18) + "|h=?"), -89);
        due("empty then", x.count(4), 0);
        due("80", law(x, 0, 0, "h=0" + "|h=1".repeat(19) + "|"), -90);
        due("empty then", x.count(4), 0);
        due("no LAWS", x.count(3), 0);
        due("a LAW afterwards", law(x, 0, 0, "h=0"), 0);
    }

    @Says(in = "Promise 32", value = "SAYS: 1, 0, -5.")
    static void p32Says() {
        PoleLogs x = withClaim(0, 0, 0);
        due("no LAW", x.says(0, 0, 0), -5);
        law(x, 0, 1, "h=0");
        due("no LAW yet", x.says(0, 0, 0), -5);
        due("1", x.says(0, 0, 1), 1);
        law(x, 0, 2, "!h=0");
        due("0", x.says(0, 0, 2), 0);
        due("no CLAIM", x.says(0, 1, 2), -5);
        due("another COMMITTEE", x.says(1, 0, 2), -5);
    }

    @Says(in = "Promise 32", value = "NONE: committee, log, year.")
    static void p32None() {
        bounds("committee", 0, 5, NONE, 1, c -> allLawful().says(c, 1, 99));
        bounds("log", 0, 1, NONE, 1, log -> allLawful().says(5, log, 0));
        bounds("year", 0, 99, NONE, 1, year -> allLawful().says(5, 1, year));
    }

    private static PoleLogs allLawful() {
        PoleLogs x = bothClaim();
        for (int c = 0; c < 6; c++) {
            law(x, c, 0, "h=0");
        }
        return x;
    }

    @Says(in = "Promise 33", value = "A LOOK: its number; answers of TELLINGS 0 .. 5, two bits each, TELLING 0 the lowest.")
    static void p33Look() {
        PoleLogs x = fresh();
        due("the first", x.look(0b110000000011), 0);
        due("the second", x.look(0b100000000011), 1);
        due("the third", x.look(0b000000001100), 2);
        due("0 and 5 alike", x.worth(0, 33), 2);
        due("0 and 5 unlike", x.worth(1, 33), 1);
        due("1 is not 0", x.worth(2, 3), 1);
        due("0 and 2 alike", x.worth(2, 5), 2);
        due("LOOKS", x.count(5), 3);
    }

    @Says(in = "Promise 33", value = "BAD: below 0, above 4095")
    static void p33Bad() {
        bounds("answers", 0, 4095, BAD, 0, v -> fresh().look(v));
    }

    @Says(in = "Promise 33", value = "FULL.")
    static void p33Full() {
        PoleLogs x = fresh();
        for (int i = 0; i < 8; i++) {
            due("room", x.look(4095), i);
        }
        due("no room", x.look(1), FULL);
        due("none parts them", x.next(63), 0);
        due("LOOKS", x.count(5), 8);
    }

    private static PoleLogs eightLooks() {
        PoleLogs x = fresh();
        for (int i = 0; i < 8; i++) {
            x.look(0);
        }
        return x;
    }

    @Says(in = "Promise 34", value = "WORTH of a LOOK for a set of TELLINGS (bits, one at least).")
    static void p34Worth() {
        PoleLogs x = eightLooks();
        for (int set = 1; set < 64; set++) {
            due("set " + set, x.worth(7, set), Integer.bitCount(set));
        }
        due("none", x.worth(7, 0), BAD);
    }

    @Says(in = "Promise 34", value = "NONE: look")
    static void p34Look() {
        due("no LOOKS", fresh().worth(0, 1), NONE);
        bounds("look", 0, 7, NONE, 1, look -> eightLooks().worth(look, 1));
    }

    @Says(in = "Promise 34", value = "BAD: set.")
    static void p34Set() {
        tooSmall("set", 1, BAD, set -> eightLooks().worth(7, set));
        tooLarge("set", 63, BAD, set -> eightLooks().worth(7, set));
    }

    @Says(in = "Promise 35", value = "NEXT.")
    static void p35Next() {
        PoleLogs x = fresh();
        x.look(0);
        due("the only one", x.next(63), 0);
        x.look(1);
        due("a better one", x.next(63), 1);
        due("no better for these", x.next(62), 0);
        x.look(2);
        due("of several the least", x.next(63), 1);
        for (int i = 3; i < 7; i++) {
            x.look(0);
        }
        x.look(0b111001000000);
        due("the last", x.next(63), 7);
    }

    @Says(in = "Promise 35", value = "BAD: set")
    static void p35Set() {
        bounds("set", 1, 63, BAD, 0, set -> eightLooks().next(set));
        due("no LOOKS either", fresh().next(64), BAD);
    }

    @Says(in = "Promise 35", value = "STATE: there are no LOOKS.")
    static void p35State() {
        PoleLogs x = fresh();
        due("none", x.next(63), STATE);
        x.look(0);
        due("one", x.next(63), 0);
    }

    @Says(in = "Promise 36", value = "WORST.")
    static void p36Worst() {
        due("no LOOKS", fresh().worst(63, 4), 6);
        PoleLogs x = fresh();
        x.look(0b000000010101);
        due("halves", x.worst(63, 1), 3);
        due("no more than that", x.worst(63, 4), 3);
        x.look(0b000110000110);
        due("thirds", x.worst(63, 1), 2);
        due("both", x.worst(63, 2), 1);
        due("none looked at", x.worst(63, 0), 6);
        for (int set = 1; set < 64; set++) {
            due("set " + set, x.worst(set, 0), Integer.bitCount(set));
            due("set " + set, x.worst(set, 4), 1);
        }
    }

    @Says(in = "Promise 36", value = "BAD: set, n.")
    static void p36Bad() {
        bounds("set", 1, 63, BAD, 1, set -> parting().worst(set, 4));
        bounds("n", 0, 4, BAD, 1, n -> parting().worst(1, n));
    }

    private static PoleLogs parting() {
        PoleLogs x = fresh();
        x.look(0b000000010101);
        x.look(0b000110000110);
        return x;
    }
}
