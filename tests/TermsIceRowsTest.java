/** Terms, parts 1 to 3: days, years, places, ice, men, logs, rows, torn tapes, ways. A test for each sentence with an edge. */
public final class TermsIceRowsTest extends Edge {
    private static final int CALLS_WITH_DAY = 9;

    public static void main(String[] args) throws Exception {
        runAll(TermsIceRowsTest.class);
    }

    /** A call with a DAY; each answers 1 if the DAY is taken. */
    private static int onDay(int call, int day) {
        PoleLogs x = withMan();
        fill(x, 0, SHORTS, 7);
        x.misprint(0, 1);
        x.misprint(199, 1);
        x.sun(0, 1);
        x.sun(199, 1);
        x.party(0, 1, 0, 200);
        x.compass(1, 0, 0);
        switch (call) {
            case 0: return x.sun(day, 0);
            case 1: return x.march(0, day, 1, 1, 1);
            case 2: return x.height(0, day, 1, 1, false);
            case 3: return x.compass(0, day, 1);
            case 4: return x.picture(0, day, 1, 1, 1);
            case 5: return x.word(0, day, 0, 1, 1, 1);
            case 6: return x.torn(0, day, 0, 0, 1, 1);
            case 7: return x.can(0, day);
            default: return x.misprint(day, 1);
        }
    }

    // ---- 1

    @Says(in = "What it is", value = "DAYS 0 ..")
    static void noDayAheadOf0() {
        for (int call = 0; call < CALLS_WITH_DAY; call++) {
            int c = call;
            due("call " + c + " on DAY 0", onDay(c, 0), 1);
            tooSmall("call " + c + " on DAY", 0, NONE, day -> onDay(c, day));
        }
    }

    @Says("199 of the logs")
    static void noDayBehind199() {
        for (int call = 0; call < CALLS_WITH_DAY; call++) {
            int c = call;
            due("call " + c + " on DAY 199", onDay(c, 199), 1);
            tooLarge("call " + c + " on DAY", 199, NONE, day -> onDay(c, day));
        }
    }

    @Says("YEARS 0 .. 99 in which things are told")
    static void years() {
        bounds("place by YEAR", 0, 99, NONE, 400100, year -> fresh().place(0, 0, year));
        bounds("falses by YEAR", 0, 99, NONE, 0, year -> fresh().falses(0, 2, 0, year));
        bounds("least by YEAR", 0, 99, NONE, 0, year -> withClaim(0, 0, 0).least(0, 0, year));
        bounds("says by YEAR", 0, 99, NONE, ANY, year -> fresh().says(0, 0, year));
        bounds("law from YEAR", 0, 99, BAD, 0, year -> law(fresh(), 0, year, "h>1"));
    }

    @Says("NOW is 0 at first.")
    static void nowAtFirst() {
        PoleLogs x = fresh();
        due("NOW", x.count(0), 0);
        x.compass(0, 0, 0);
        due("YEAR of the first ROW", x.of(0, 3), 0);
    }

    @Says("PLACES are x, y in miles, -400 .. 399")
    static void places() {
        bounds("start x", -400, 399, BAD, 1, v -> fresh().start(0, v, 0));
        bounds("start y", -400, 399, BAD, 1, v -> fresh().start(0, 0, v));
        bounds("claim x", -400, 399, BAD, 1, v -> fresh().claim(0, v, 0, 0));
        bounds("claim y", -400, 399, BAD, 1, v -> fresh().claim(0, 0, v, 0));
        bounds("word x", -400, 399, BAD, 0, v -> withMan().word(0, 0, 0, v, 0, 0));
        bounds("word y", -400, 399, BAD, 0, v -> withMan().word(0, 0, 0, 0, v, 0));
        bounds("fits x", -400, 399, BAD, 1, v -> fitsAnywhere(v, 0));
        bounds("fits y", -400, 399, BAD, 1, v -> fitsAnywhere(0, v));
        tooSmall("latitude x", -400, BAD, v -> fresh().latitude(v, 0));
        tooLarge("latitude x", 399, BAD, v -> fresh().latitude(v, 0));
        tooSmall("latitude y", -400, BAD, v -> fresh().latitude(0, v));
        tooLarge("latitude y", 399, BAD, v -> fresh().latitude(0, v));
    }

    private static int fitsAnywhere(int px, int py) {
        PoleLogs x = fresh();
        x.compass(0, 0, 0);
        return x.fits(0, px, py);
    }

    @Says("CELLS are 8 by 8 of 100 miles")
    static void cornersOfTheIce() {
        due("CELL 0", isInCell(0, -400, -400), 1);
        due("CELL 7", isInCell(7, 399, -400), 1);
        due("CELL 56", isInCell(56, -400, 399), 1);
        due("CELL 63", isInCell(63, 399, 399), 1);
        due("THE POLE", isInCell(36, 0, 0), 1);
        due("just ahead of THE POLE", isInCell(27, -1, -1), 1);
    }

    @Says("CELL of a PLACE: 8 (y + 400) / 100 and (x + 400) / 100, both cut.")
    static void edgesOfEachCell() {
        for (int cell = 0; cell < 64; cell++) {
            int west = cell % 8 * 100 - 400;
            int south = cell / 8 * 100 - 400;
            due("south west of " + cell, isInCell(cell, west, south), 1);
            due("north east of " + cell, isInCell(cell, west + 99, south + 99), 1);
            if (west > -400) {
                due("west of " + cell, isInCell(cell, west - 1, south), 0);
            }
            if (south > -400) {
                due("south of " + cell, isInCell(cell, west, south - 1), 0);
            }
            if (west < 300) {
                due("east of " + cell, isInCell(cell, west + 100, south), 0);
            }
            if (south < 300) {
                due("north of " + cell, isInCell(cell, west, south + 100), 0);
            }
        }
    }

    private static int isInCell(int cell, int px, int py) {
        PoleLogs x = fresh();
        x.ice(cell, 1, 1);
        x.compass(0, 0, 1);
        return x.fits(0, px, py);
    }

    @Says("Each CELL has a DRIFT (dx, dy, -30 .. 30 miles a DAY)")
    static void drifts() {
        bounds("dx", -30, 30, BAD, 1, v -> fresh().drift(5, v, 0));
        bounds("dy", -30, 30, BAD, 1, v -> fresh().drift(5, 0, v));
        for (int v : new int[] {-30, 30}) {
            PoleLogs x = withStart(0, 0);
            x.drift(36, v, -v);
            x.drift(27, v, -v);
            x.drift(28, v, -v);
            x.drift(35, v, -v);
            due("a DAY", x.place(0, 0, 0), place(v, -v));
            due("two DAYS", x.place(0, 1, 0), place(2 * v, -2 * v));
        }
    }

    @Says("a RIDGE (0 .. 9)")
    static void ridges() {
        bounds("RIDGE", 0, 9, BAD, 1, v -> fresh().ice(5, 0, v));
        PoleLogs x = withMan();
        x.party(0, 1, 99, 0);
        x.ice(12, 0, 9);
        due("RIDGE 9", x.can(0, 0), 201 - 36);
        x.ice(12, 0, 0);
        due("RIDGE 0", x.can(0, 0), 201);
    }

    @Says("a TURN of the needle (-7 .. 8 points of 16)")
    static void turns() {
        bounds("TURN", -7, 8, BAD, 1, v -> fresh().ice(5, 1, v));
        PoleLogs x = fresh();
        x.ice(36, 1, -7);
        x.compass(0, 0, 9);
        x.compass(0, 0, 8);
        due("TURN -7", x.fits(0, 0, 0), 1);
        x.ice(36, 1, 8);
        due("TURN 8", x.fits(1, 0, 0), 1);
        due("no longer -7", x.fits(0, 0, 0), 0);
    }

    @Says("all 0 at first.")
    static void iceAtFirst() {
        PoleLogs x = withMan();
        x.party(0, 1, 0, 0);
        x.compass(0, 0, 0);
        for (int cell = 0; cell < 64; cell++) {
            int px = cell % 8 * 100 - 350;
            int py = cell / 8 * 100 - 350;
            x.start(0, px, py);
            due("DRIFT of " + cell, x.place(0, 0, 0), place(px, py));
            due("RIDGE of " + cell, x.can(0, 0), 3);
            due("TURN of " + cell, x.fits(0, px, py), 1);
        }
    }

    @Says("SUN of a DAY: a number of minutes (0 .. 1500; 0 at first).")
    static void suns() {
        PoleLogs x = fresh();
        for (int day = 0; day < 200; day++) {
            due("at first on " + day, x.sun(day, day % 2 == 0 ? 1500 : 1), 0);
            due("then on " + day, x.sun(day, 0), day % 2 == 0 ? 1500 : 1);
        }
        bounds("SUN", 0, 1500, BAD, 0, v -> fresh().sun(9, v));
    }

    @Says("BEARINGS are points 0 .. 15")
    static void bearings() {
        bounds("BEARING", 0, 15, BAD, 0, v -> fresh().march(0, 0, 1, 1, v));
    }

    @Says({"a mile by them has, in thousandths: dx 0, 383, 707, 924, 1000, 924, 707, 383, 0, -383, -707, -924,"
        + " -1000, -924, -707, -383", "dy is dx of four points more (1000 at 0)."})
    static void milesByBearingsWrapAt16() {
        int[] dx = {0, 38, 70, 92, 100, 92, 70, 38, 0, -38, -70, -92, -100, -92, -70, -38};
        int[] dy = {100, 92, 70, 38, 0, -38, -70, -92, -100, -92, -70, -38, 0, 38, 70, 92};
        for (int bearing = 0; bearing < 16; bearing++) {
            PoleLogs x = withStart(0, 0);
            x.march(0, 0, 20, 50, bearing);
            due("100 miles by " + bearing, x.place(0, 0, 0), place(dx[bearing], dy[bearing]));
        }
    }

    /** 0 to 144 miles, so that a thousandth more or less shows somewhere. */
    @Says("a mile by them has, in thousandths: dx 0, 383, 707, 924, 1000, 924, 707, 383, 0, -383, -707, -924, -1000, -924, -707,"
        + " -383")
    static void thousandthsOfAMile() {
        int[] east = {0, 383, 707, 924, 1000, 924, 707, 383, 0, -383, -707, -924, -1000, -924, -707, -383};
        for (int bearing = 0; bearing < 16; bearing++) {
            for (int hours : new int[] {24, 23, 19, 17}) {
                for (int pace = 0; pace <= 60; pace++) {
                    int miles = hours * pace / 10;
                    PoleLogs x = withStart(0, 0);
                    x.march(0, 0, hours, pace, bearing);
                    due(miles + " miles by " + bearing, x.place(0, 0, 0),
                        place(miles * east[bearing] / 1000, miles * east[(bearing + 4) % 16] / 1000));
                }
            }
        }
    }

    @Says("MEN 0 .. 11, as they come")
    static void twelveMen() {
        PoleLogs x = fresh();
        for (int i = 0; i < 12; i++) {
            due("MAN", x.man(1, 0), i);
        }
        due("a thirteenth", x.man(1, 0), FULL);
        due("of the last", x.word(0, 0, 11, 0, 0, 0), 0);
        due("of one more", x.word(0, 0, 12, 0, 0, 0), NONE);
        due("with the last", x.party(0, 1 << 11, 0, 0), 1);
        due("CAN of the last", x.can(0, 0), 3);
        due("with one more", x.party(0, 1 << 12, 0, 0), BAD);
    }

    @Says("STRENGTH 1 .. 20")
    static void strengths() {
        bounds("STRENGTH", 1, 20, BAD, 0, v -> fresh().man(v, 0));
        PoleLogs x = fresh();
        x.man(20, 0);
        x.man(1, 0);
        x.party(0, 3, 0, 0);
        due("20 and 1", x.can(0, 0), 63);
    }

    @Says("SKILL 0 .. 9.")
    static void skills() {
        bounds("SKILL", 0, 9, BAD, 0, v -> fresh().man(1, v));
        PoleLogs x = withClaim(0, 0, 0);
        x.man(1, 9);
        x.man(1, 0);
        x.party(0, 3, 0, 0);
        due("9 and 0", holds(x, "s=9"), 1);
    }

    @Says("Each LOG (0, 1)")
    static void logs() {
        bounds("party", 0, 1, NONE, 1, log -> fresh().party(log, 0, 0, 0));
        bounds("start", 0, 1, NONE, 1, log -> fresh().start(log, 0, 0));
        bounds("claim", 0, 1, NONE, 1, log -> fresh().claim(log, 0, 0, 0));
        bounds("march", 0, 1, NONE, 0, log -> fresh().march(log, 0, 0, 0, 0));
        bounds("height", 0, 1, NONE, 0, log -> fresh().height(log, 0, 0, 0, true));
        bounds("compass", 0, 1, NONE, 0, log -> fresh().compass(log, 0, 0));
        bounds("picture", 0, 1, NONE, 0, log -> fresh().picture(log, 0, 1, 1, 0));
        bounds("word", 0, 1, NONE, 0, log -> withMan().word(log, 0, 0, 0, 0, 0));
        bounds("torn", 0, 1, NONE, 1, log -> withTape(SHORTS, 5).torn(log, 0, 0, 0, 1, 0));
        bounds("place", 0, 1, NONE, 400100, log -> fresh().place(log, 0, 0));
        bounds("can", 0, 1, NONE, 0, log -> fresh().can(log, 0));
        bounds("beyond", 0, 1, NONE, 0, log -> fresh().beyond(log, 0));
        bounds("quarrel", 0, 1, NONE, ANY, log -> fresh().quarrel(log));
        bounds("home", 0, 1, NONE, 0, log -> fresh().home(log));
        bounds("held", 0, 1, NONE, STATE, log -> fresh().held(log, 0, 1));
        bounds("falses", 0, 1, NONE, 0, log -> fresh().falses(log, 2, 0, 0));
        bounds("least", 0, 1, NONE, STATE, log -> fresh().least(log, 0, 0));
        bounds("made", 0, 1, NONE, STATE, log -> fresh().made(log, 0));
        bounds("says", 0, 1, NONE, ANY, log -> fresh().says(0, log, 0));
        bounds("needs", 0, 1, NO, 0, log -> bothClaimTheirStart().needs(log, 0));
    }

    private static PoleLogs bothClaimTheirStart() {
        PoleLogs x = withClaim(0, -300, 0);
        x.claim(1, 0, -300, 0);
        return x;
    }

    @Says("has its PARTY (MEN as bits)")
    static void menAsBits() {
        PoleLogs x = fresh();
        x.man(1, 0);
        x.man(2, 0);
        x.man(4, 0);
        for (int men = 0; men < 8; men++) {
            due("party " + men, x.party(0, men, 0, 0), 1);
            due("CAN of " + men, x.can(0, 0), 3 * men);
        }
        due("one more bit", x.party(0, 8, 0, 0), BAD);
        due("all bits", x.party(0, -1, 0, 0), BAD);
        due("the highest bit", x.party(0, MIN, 0, 0), BAD);
        due("as it was", x.can(0, 0), 21);
    }

    @Says("DOGS (0 .. 99)")
    static void dogs() {
        bounds("DOGS", 0, 99, BAD, 1, v -> fresh().party(0, 0, v, 0));
        PoleLogs x = fresh();
        x.party(0, 0, 99, 0);
        due("CAN of 99", x.can(0, 0), 198);
    }

    @Says("a LOAD (0 .. 9999 pounds)")
    static void loads() {
        bounds("LOAD", 0, 9999, BAD, 1, v -> fresh().party(0, 0, 0, v));
        PoleLogs x = fresh();
        x.party(0, 0, 99, 9999);
        due("CAN under 9999", x.can(0, 0), 198 - 99);
    }

    @Says("a START (a PLACE, (0, -300) at first)")
    static void startAtFirst() {
        PoleLogs x = fresh();
        due("LOG 0", x.place(0, -1, 0), place(0, -300));
        due("LOG 1", x.place(1, -1, 99), place(0, -300));
    }

    @Says("a CLAIM (a PLACE and a DAY; none at first).")
    static void noClaimAtFirst() {
        PoleLogs x = fresh();
        law(x, 0, 0, "h=0");
        x.tape(0, BYTES, 2);
        for (int log = 0; log < 2; log++) {
            due("needs", x.needs(log, 0), NO);
            due("held", x.held(log, 0, 1), STATE);
            due("falses", x.falses(log, 0, 0, 0), STATE);
            due("least", x.least(log, 0, 0), STATE);
            due("made", x.made(log, 0), STATE);
            due("says", x.says(0, log, 0), ANY);
        }
    }

    // ---- 2

    @Says("ROWS 0 .. 119, as they come")
    static void rows() {
        PoleLogs x = withMan();
        for (int i = 0; i < 20; i++) {
            due("MARCH", x.march(i % 2, i, 1, 1, 1), 6 * i);
            due("HEIGHT", x.height(i % 2, i, 1, 1, false), 6 * i + 1);
            due("COMPASS", x.compass(i % 2, i, 1), 6 * i + 2);
            due("PICTURE", x.picture(i % 2, i, 1, 1, 1), 6 * i + 3);
            due("WORD", x.word(i % 2, i, 0, 1, 1, 1), 6 * i + 4);
            due("MADE", x.height(i % 2, i, 1, 1, true), 6 * i + 5);
        }
        due("a MARCH more", x.march(0, 99, 1, 1, 1), FULL);
        due("a HEIGHT more", x.height(0, 99, 1, 1, false), FULL);
        due("a COMPASS more", x.compass(0, 99, 1), FULL);
        due("a PICTURE more", x.picture(0, 99, 1, 1, 1), FULL);
        due("a WORD more", x.word(0, 99, 0, 1, 1, 1), FULL);
        due("a MADE more", x.height(0, 99, 1, 1, true), FULL);
        due("the last one's KIND", x.of(119, 0), 6);
        due("none behind it", x.of(120, 0), NO);
    }

    @Says("each of a LOG, a DAY, a KIND, told in the YEAR NOW")
    static void toldNow() {
        PoleLogs x = fresh();
        x.compass(1, 199, 3);
        x.pass(20);
        x.height(0, 0, 3, 3, true);
        fill(x, 0, SHORTS, 5);
        x.pass(1);
        x.torn(1, 7, 0, 0, 1, 0);
        int[][] want = {{3, 1, 199, 0}, {6, 0, 0, 20}, {2, 1, 7, 21}};
        for (int row = 0; row < 3; row++) {
            for (int what = 0; what < 4; what++) {
                due("of ROW " + row + " what " + what, x.of(row, what), want[row][what]);
            }
        }
    }

    @Says("MARCH: hours (0 .. 24), pace (0 .. 60 tenths of a mile an hour), BEARING.")
    static void marches() {
        bounds("hours", 0, 24, BAD, 0, v -> fresh().march(0, 0, v, 1, 1));
        bounds("pace", 0, 60, BAD, 0, v -> fresh().march(0, 0, 1, v, 1));
        bounds("BEARING", 0, 15, BAD, 0, v -> fresh().march(0, 0, 1, 1, v));
    }

    @Says("HEIGHT, MADE: minutes (0 .. 5400), a glass' error (0 .. 60 minutes).")
    static void heights() {
        for (boolean made : new boolean[] {false, true}) {
            bounds("minutes", 0, 5400, BAD, 0, v -> fresh().height(0, 0, v, 1, made));
            bounds("error", 0, 60, BAD, 0, v -> fresh().height(0, 0, 1, v, made));
        }
    }

    @Says("COMPASS: points read (0 .. 15).")
    static void points() {
        bounds("points", 0, 15, BAD, 0, v -> fresh().compass(0, 0, v));
    }

    @Says("PICTURE: a staff and its shadow (1 .. 999 both), a tilt (0 .. 9).")
    static void pictures() {
        bounds("staff", 1, 999, BAD, 0, v -> fresh().picture(0, 0, v, 1, 0));
        bounds("shadow", 1, 999, BAD, 0, v -> fresh().picture(0, 0, 1, v, 0));
        bounds("tilt", 0, 9, BAD, 0, v -> fresh().picture(0, 0, 1, 1, v));
    }

    @Says("WORD: of a MAN, a PLACE, so many miles about it (0 .. 200).")
    static void words() {
        bounds("miles", 0, 200, BAD, 0, v -> withMan().word(0, 0, 0, 0, 0, v));
        bounds("MAN", 0, 0, NONE, 0, v -> withMan().word(0, 0, v, 0, 0, 0));
        bounds("x", -400, 399, BAD, 0, v -> withMan().word(0, 0, 0, v, 0, 0));
        bounds("y", -400, 399, BAD, 0, v -> withMan().word(0, 0, 0, 0, v, 0));
    }

    @Says("A MARCH is one a DAY of a LOG (others: any number).")
    static void oneMarchADay() {
        PoleLogs x = withMan();
        due("the first", x.march(0, 7, 1, 1, 1), 0);
        due("a second", x.march(0, 7, 1, 1, 1), STATE);
        due("of the other LOG", x.march(1, 7, 1, 1, 1), 1);
        due("of another DAY", x.march(0, 8, 1, 1, 1), 2);
        x.pass(1);
        due("in another YEAR", x.march(0, 7, 2, 2, 2), STATE);
        for (int i = 0; i < 3; i++) {
            due("HEIGHT", x.height(0, 7, 1, 1, false), 5 * i + 3);
            due("MADE", x.height(0, 7, 1, 1, true), 5 * i + 4);
            due("COMPASS", x.compass(0, 7, 1), 5 * i + 5);
            due("PICTURE", x.picture(0, 7, 1, 1, 1), 5 * i + 6);
            due("WORD", x.word(0, 7, 0, 1, 1, 1), 5 * i + 7);
        }
    }

    @Says("TORN: a row of shorts on a TAPE (see 8), from a place on, n of them: HEIGHTS of a LOG, one a DAY from a DAY on,"
        + " with one error")
    static void tornRow() {
        PoleLogs x = withTape(SHORTS, 10, 20, 30, 40);
        due("two of them", x.torn(1, 50, 0, 1, 2, 60), 2);
        int[][] want = {{2, 1, 50, 0, 20, 60, NO, NO}, {2, 1, 51, 0, 30, 60, NO, NO}};
        for (int row = 0; row < 2; row++) {
            for (int what = 0; what < 8; what++) {
                due("of ROW " + row + " what " + what, x.of(row, what), want[row][what]);
            }
        }
        due("no more", x.count(2), 2);
    }

    @Says("-1 was not taken")
    static void tornMinusOne() {
        PoleLogs x = withTape(SHORTS, -1, 10, -1, -1, 20, -1);
        due("two came", x.torn(0, 100, 0, 0, 6, 0), 2);
        due("a DAY for the first -1", x.of(0, 2), 101);
        due("and for the others", x.of(1, 2), 104);
        due("only -1", x.torn(0, 100, 0, 2, 2, 0), 0);
        due("no ROW for it", x.count(2), 2);
    }

    @Says("it ends where the row is missing")
    static void tornMissing() {
        PoleLogs x = fresh();
        due("never made", x.torn(0, 0, 3, 0, 40, 0), 0);
        x.tape(3, SHORTS, 5);
        x.tape(3, -1, 5);
        due("gone", x.torn(0, 0, 3, 0, 40, 0), 0);
        due("no ROWS", x.count(2), 0);
    }

    @Says("or has no such place")
    static void tornNoSuchPlace() {
        PoleLogs x = withTape(SHORTS, 1, 2, 3);
        due("from the last on", x.torn(0, 0, 0, 2, 40, 0), 1);
        due("from behind the last on", x.torn(0, 0, 0, 3, 40, 0), 0);
        due("from -1 on", x.torn(0, 0, 0, -1, 40, 0), 0);
        due("from -40 on", x.torn(0, 0, 0, -40, 40, 0), 0);
        due("from the least on", x.torn(0, 0, 0, MIN, 40, 0), 0);
        due("from the greatest on", x.torn(0, 0, 0, MAX, 40, 0), 0);
        due("from where it would wrap", x.torn(0, 0, 0, MAX - 20, 40, 0), 0);
        due("from 1 on", x.torn(0, 0, 0, 1, 40, 0), 2);
        x.tape(0, SHORTS, 0);
        due("of an empty row", x.torn(0, 0, 0, 0, 40, 0), 0);
        due("ROWS", x.count(2), 3);
    }

    @Says("or one is no HEIGHT")
    static void tornNoHeight() {
        for (int wrong : new int[] {-2, 5401, -32768, 32767}) {
            PoleLogs x = withTape(SHORTS, 0, 5400, wrong, 7);
            due("ends at " + wrong, x.torn(0, 0, 0, 0, 4, 0), 2);
            due("ROWS", x.count(2), 2);
            due("behind it", x.torn(0, 0, 0, 3, 1, 0), 1);
        }
    }

    @Says("or there is no room")
    static void tornNoRoom() {
        PoleLogs x = fresh();
        fillRows(x, 117);
        fill(x, 0, SHORTS, 1, -1, 2, 3, 4, 5);
        due("three come", x.torn(0, 0, 0, 0, 6, 0), 3);
        due("ROWS", x.count(2), 120);
        due("the last of them", x.of(119, 4), 3);
        due("none comes", x.torn(0, 0, 0, 0, 6, 0), 0);
    }

    @Says("or behind DAY 199.")
    static void tornBehindTheLastDay() {
        PoleLogs x = withTape(SHORTS, 1, -1, 3, 4);
        due("198, 199", x.torn(0, 198, 0, 2, 2, 0), 2);
        due("199 alone", x.torn(0, 199, 0, 2, 2, 0), 1);
        due("-1 on 199", x.torn(0, 199, 0, 1, 2, 0), 0);
        due("197 to 199", x.torn(0, 197, 0, 0, 4, 0), 2);
        due("the last DAY", x.of(4, 2), 199);
    }

    @Says("ACTS of ROWS by KIND, with x (wrapping)")
    static void actsWrap() {
        PoleLogs x = withMan();
        x.march(0, 2, 24, 1, 1);
        x.height(0, 3, 5400, 0, false);
        x.compass(0, 4, 15);
        x.picture(0, 5, 999, 1, 0);
        x.word(0, 6, 0, 0, 0, 0);
        x.height(0, 7, 5400, 0, true);
        due("x + v", x.act(0, 0, MAX), MIN + 23);
        due("x * 2", x.act(0, 1, MIN), 22);
        due("x * 2", x.act(0, 1, MAX), 20);
        due("less 90", x.act(1, 0, MAX), MIN + 5309);
        due("less d", x.act(4, 1, MIN), (int) (3L * (MIN - 6L)));
        due("times 3", x.act(4, 1, 1 << 30), (int) (3L * ((1L << 30) - 6)));
        due("x & 15", x.act(2, 0, MIN), 15);
        due("x & 15", x.act(2, 0, MAX), 30);
        due("x + 1", x.act(5, 0, MAX), (int) (2 * (MAX + 5310L) + 1));
        due("x - 1", x.act(5, 2, MIN), (int) (((int) (2 * ((MIN - 1L) + 5310) + 1 - 7) ^ 5) + (2 * 5311L + 1 - 7)));
        due("least negated", x.act(3, 2, MIN + 5 - 999 + 3), (int) -(long) (MIN + 3 ^ 3));
    }

    @Says("i its number, d its DAY, v its first number.")
    static void actsOfTheLastRow() {
        PoleLogs x = fresh();
        fillRows(x, 118);
        x.compass(0, 199, 15);
        x.picture(0, 199, 999, 1, 9);
        due("v of COMPASS", x.act(118, 0, 0), 15);
        due("d of COMPASS", x.act(118, 1, 0), 15 - 199);
        due("i of COMPASS", x.act(118, 2, 0), 15 - 199 ^ 118);
        due("v of PICTURE", x.act(119, 0, 0), 999);
        due("d of PICTURE", x.act(119, 1, 0), 999 - 199);
        due("i of PICTURE", x.act(119, 2, 0), -(999 - 199 ^ 119));
        PoleLogs first = withMan();
        first.word(0, 0, 0, 9, 9, 9);
        for (int act = 0; act < 3; act++) {
            due("all are 0", first.act(0, act, 0), 0);
        }
    }

    @Says("fits(..) and so on: the body of the ROW's KIND, or, if that has none, of the next KIND above that has one")
    static void bodiesOfTheNextKindAbove() {
        PoleLogs x = oneOfEach();
        int[][] first = {{10, 20, 12}, {30, 11, 31}, {40, 11, 12}, {10, 11, 50}, {10, 60, 12}, {70, 11, 71}};
        for (int row = 0; row < 6; row++) {
            for (int act = 0; act < 3; act++) {
                x.act(row, act, 0);
                due("first body of ROW " + row + " act " + act, x.trace(0), first[row][act]);
            }
        }
        x.act(5, 1, 0);
        due("hangs of ROW asks for fits of MADE", x.trace(1), 70);
        x.act(0, 2, 0);
        due("shows of ROW asks for hangs of MARCH", x.trace(1), 20);
    }

    @Says({"super.fits(..): so from the KIND above the body's on", "all that stands in a body is done from the left on."})
    static void superFromTheKindAbove() {
        PoleLogs x = oneOfEach();
        x.act(5, 0, 0);
        int[] made = {70, 30, 10, 30, 10};
        for (int i = 0; i < made.length; i++) {
            due("fits of MADE, body " + i, x.trace(i), made[i]);
        }
        x.act(1, 2, 0);
        int[] height = {31, 12, 11, 30, 10, 11, 30, 10};
        for (int i = 0; i < height.length; i++) {
            due("shows of HEIGHT, body " + i, x.trace(i), height[i]);
        }
        x.act(3, 2, 0);
        due("shows of PICTURE, above it ROW's", x.trace(1), 12);
    }

    /** ROWS 0 .. 5: MARCH, HEIGHT, COMPASS, PICTURE, WORD, MADE. */
    private static PoleLogs oneOfEach() {
        PoleLogs x = withMan();
        x.march(0, 2, 5, 6, 7);
        x.height(0, 1, 100, 2, false);
        x.compass(0, 3, 11);
        x.picture(0, 4, 8, 9, 1);
        x.word(0, 5, 0, 1, 1, 1);
        x.height(0, 6, 200, 2, true);
        return x;
    }

    @Says("the first 20 are kept.")
    static void longestTraceIsKept() {
        PoleLogs x = fresh();
        x.height(0, 0, 1, 1, true);
        x.act(0, 2, 1);
        int[] want = {71, 31, 12, 11, 70, 30, 10, 30, 10, 11, 70, 30, 10, 30, 10};
        due("bodies", x.count(7), 15);
        for (int i = 0; i < 15; i++) {
            due("trace " + i, x.trace(i), want[i]);
        }
        for (int i = 15; i <= 21; i++) {
            due("trace " + i, x.trace(i), NONE);
        }
    }

    // ---- 3

    @Says("THE WAY of a LOG by what was told up to a YEAR")
    static void wayUpToAYear() {
        PoleLogs x = fresh();
        x.march(0, 0, 10, 10, 0);
        x.pass(5);
        x.march(0, 1, 10, 20, 0);
        due("YEAR 0", x.place(0, 1, 0), place(0, -290));
        due("YEAR 4", x.place(0, 1, 4), place(0, -290));
        due("YEAR 5", x.place(0, 1, 5), place(0, -270));
        due("YEAR 99", x.place(0, 1, 99), place(0, -270));
    }

    @Says("from START on, each DAY: the MARCH of that DAY, if there is one")
    static void daysWithoutMarch() {
        PoleLogs x = withStart(0, 0);
        x.march(0, 3, 10, 10, 4);
        x.march(1, 2, 10, 10, 4);
        due("ahead", x.place(0, 2, 0), place(0, 0));
        due("on it", x.place(0, 3, 0), place(10, 0));
        due("behind", x.place(0, 199, 0), place(10, 0));
        x.march(0, 199, 10, 10, 4);
        due("the last DAY", x.place(0, 199, 0), place(20, 0));
        x.march(0, 0, 10, 10, 12);
        due("the first DAY", x.place(0, 0, 0), place(-10, 0));
    }

    @Says("MILES are hours times pace by 10, cut")
    static void milesAreCut() {
        int[][] marches = {{1, 9, 0}, {1, 10, 1}, {1, 19, 1}, {3, 33, 9}, {24, 60, 144}, {0, 60, 0}, {24, 0, 0}, {9, 11, 9}};
        for (int[] m : marches) {
            PoleLogs x = withStart(0, 0);
            x.march(0, 0, m[0], m[1], 4);
            due(m[0] + " hours by " + m[1], x.place(0, 0, 0), place(m[2], 0));
        }
    }

    @Says("x and y go on by MILES times thousandths by 1000, cut towards 0, each")
    static void stepsAreCutTowards0() {
        int[][] ways = {{1, 3, 9}, {7, 3, -9}, {9, -3, -9}, {15, -3, 9}, {2, 7, 7}, {10, -7, -7}, {11, -9, -3}};
        for (int[] w : ways) {
            PoleLogs x = withStart(0, 0);
            x.march(0, 0, 10, 10, w[0]);
            due("10 miles by " + w[0], x.place(0, 0, 0), place(w[1], w[2]));
        }
        PoleLogs x = withStart(0, 0);
        x.march(0, 0, 1, 10, 9);
        due("a mile by 9", x.place(0, 0, 0), place(0, 0));
    }

    @Says("then the DRIFT of the CELL in which it is then")
    static void driftBehindTheMarch() {
        PoleLogs x = withStart(0, 99);
        x.drift(36, 1, 2);
        x.drift(44, -3, -4);
        due("no MARCH", x.place(0, 0, 0), place(1, 101));
        x.march(0, 0, 1, 10, 0);
        due("a mile into the next CELL", x.place(0, 0, 0), place(-3, 96));
    }

    @Says("either coordinate stays within -400 .. 399.")
    static void wayStaysWithin() {
        int[][] ends = {{2, 399, 399}, {6, 399, -400}, {10, -400, -400}, {14, -400, 399}};
        for (int[] e : ends) {
            PoleLogs x = fresh();
            x.start(0, e[1] > 0 ? 350 : -350, e[2] > 0 ? 350 : -350);
            x.march(0, 0, 24, 60, e[0]);
            due("marched to a corner", x.place(0, 0, 0), place(e[1], e[2]));
            int cell = (e[2] > 0 ? 56 : 0) + (e[1] > 0 ? 7 : 0);
            x.drift(cell, e[1] > 0 ? -1 : 1, e[2] > 0 ? -2 : 2);
            due("held ahead of the DRIFT", x.place(0, 0, 0), place(e[1] > 0 ? 398 : -399, e[2] > 0 ? 397 : -398));
            x.drift(cell, e[1] > 0 ? 30 : -30, e[2] > 0 ? 30 : -30);
            due("drifted against a corner", x.place(0, 199, 0), place(e[1], e[2]));
        }
        PoleLogs x = withStart(398, -399);
        x.march(0, 0, 1, 10, 4);
        due("just to the edge", x.place(0, 0, 0), place(399, -399));
        x.march(0, 1, 1, 10, 8);
        due("just to the other", x.place(0, 1, 0), place(399, -400));
        x.march(0, 2, 1, 10, 5);
        due("0 of a mile is no step", x.place(0, 2, 0), place(399, -400));
    }

    @Says("PLACE of a DAY: behind that (of DAY -1: START).")
    static void placeOfDayMinusOne() {
        PoleLogs x = withStart(-7, 8);
        x.drift(35, 1, 1);
        x.march(0, 0, 10, 10, 0);
        due("DAY -1", x.place(0, -1, 0), place(-7, 8));
        due("DAY 0", x.place(0, 0, 0), place(-6, 19));
        due("DAY 1", x.place(0, 1, 0), place(-5, 20));
    }

    @Says("3 for each of the STRENGTH of its MEN together, and 2 for each DOG")
    static void canOfNobodyAndOfAll() {
        PoleLogs x = fresh();
        due("nobody", x.can(0, 0), 0);
        for (int i = 0; i < 12; i++) {
            x.man(20, 9);
        }
        x.party(0, 4095, 99, 0);
        due("all", x.can(0, 0), 720 + 198);
        x.party(0, 0, 1, 0);
        due("one DOG", x.can(0, 0), 2);
        x.party(0, 1 << 11, 0, 0);
        due("the last MAN", x.can(0, 0), 60);
    }

    @Says("less LOAD by 100 (cut)")
    static void loadIsCut() {
        PoleLogs x = fresh();
        int[][] loads = {{0, 198}, {99, 198}, {100, 197}, {199, 197}, {200, 196}, {9999, 99}};
        for (int[] l : loads) {
            x.party(0, 0, 99, l[0]);
            due("LOAD " + l[0], x.can(0, 0), l[1]);
        }
    }

    @Says("less 4 for each of the RIDGE of the CELL ahead of the MARCH")
    static void ridgeAheadOfTheMarch() {
        PoleLogs x = withStart(0, 99);
        x.party(0, 0, 50, 0);
        x.ice(36, 0, 1);
        x.ice(44, 0, 9);
        x.march(0, 0, 1, 10, 0);
        due("DAY 0 goes out from START's CELL", x.can(0, 0), 96);
        due("DAY 1 from the next", x.can(0, 1), 64);
        due("the last DAY", x.can(0, 199), 64);
    }

    @Says("0 at least.")
    static void canIs0AtLeast() {
        PoleLogs x = fresh();
        x.party(0, 0, 2, 400);
        due("just 0", x.can(0, 0), 0);
        x.party(0, 0, 2, 300);
        due("1", x.can(0, 0), 1);
        x.party(0, 0, 2, 500);
        due("not below", x.can(0, 0), 0);
        x.ice(12, 0, 9);
        x.party(0, 0, 0, 9999);
        due("far from below", x.can(0, 0), 0);
        x.march(0, 0, 1, 10, 0);
        due("a mile is just a mile above", x.beyond(0, 0), 1);
        x.march(0, 1, 1, 9, 0);
        due("0 miles are not", x.beyond(0, 0), 1);
    }

    @Says("BEYOND: a MARCH of more MILES than that.")
    static void beyondIsMore() {
        PoleLogs x = fresh();
        x.party(0, 0, 5, 0);
        x.march(0, 0, 10, 10, 0);
        due("just as many", x.beyond(0, 0), 0);
        due("it fits", x.fits(0, 0, 0), 1);
        x.march(0, 1, 10, 11, 0);
        due("one more", x.beyond(0, 0), 1);
        due("it does not fit", x.fits(1, 0, 0), 0);
    }

    @Says("MOST BEYOND: the DAY on which MILES are most above (of several the first).")
    static void mostBeyondIsTheFirst() {
        PoleLogs x = fresh();
        x.march(0, 150, 10, 20, 0);
        due("one", x.beyond(0, 1), 150);
        x.march(0, 199, 10, 20, 8);
        due("a later one as far", x.beyond(0, 1), 150);
        x.march(0, 3, 10, 20, 8);
        due("an earlier one, told later", x.beyond(0, 1), 3);
        x.march(0, 0, 10, 19, 8);
        due("an earlier one, less far", x.beyond(0, 1), 3);
        x.march(0, 198, 10, 21, 8);
        due("a later one, farther", x.beyond(0, 1), 198);
        PoleLogs other = withStart(0, 60);
        other.party(0, 0, 20, 0);
        other.ice(44, 0, 9);
        other.march(0, 0, 20, 30, 0);
        other.march(0, 1, 20, 15, 0);
        due("most above, not most MILES", other.beyond(0, 1), 1);
    }
}
