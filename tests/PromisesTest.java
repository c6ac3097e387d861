/** For each promise: ordinary inputs, the edges that the document names, wrong inputs. Answers worked out by hand. */
public final class PromisesTest {
    private static final int NONE = -1, BAD = -2, STATE = -3, FULL = -4, ANY = -5;
    private static final int NO = -1000000000;
    private static final int NOTHING = -11, CAST = -12, PLACE = -13, SIZE = -14;
    private static final int MAX = Integer.MAX_VALUE, MIN = Integer.MIN_VALUE;

    private static void due(String call, long got, long want) {
        Due.due(call, got, want);
    }

    private static int feed(PoleLogs x, String text) {
        int has = x.count(4);
        for (int i = 0; i < text.length(); i++) {
            has = x.feed(text.charAt(i), 1);
        }
        return has;
    }

    private static int law(PoleLogs x, int committee, int year, String text) {
        feed(x, text);
        return x.law(committee, year);
    }

    public static void main(String[] args) {
        p1();
        p2();
        p3();
        p4();
        p5to6();
        p7to9();
        p10();
        p11();
        p12to14();
        p15();
        p16();
        p17();
        p18();
        p19to20();
        p21to22();
        p23();
        p24to25();
        p26to27();
        nearAndNever();
        p28to29();
        p30();
        p31();
        p31viable();
        p32();
        p32years();
        p33to36();
        p37to38();
        p39to40();
        p41to43();
        p44();
        refusalsChangeNothing();
        Due.end();
    }

    private static void p1() {
        PoleLogs x = new PoleLogs();
        for (int what = 0; what <= 7; what++) {
            due("1 count " + what, x.count(what), 0);
        }
        for (int log = 0; log < 2; log++) {
            due("1 place", x.place(log, 199, 99), 400100);
            due("1 can", x.can(log, 0), 0);
            due("1 beyond", x.beyond(log, 0), 0);
            due("1 needs", x.needs(log, 0), NO);
        }
        for (int day = 0; day < 200; day++) {
            due("1 sun", x.sun(day, 0), 0);
            due("1 misprint", x.misprint(day, -1), -1);
        }
        for (int tape = 0; tape < 6; tape++) {
            due("1 item", x.item(tape, 0, 0), NOTHING);
        }
        due("1 trace", x.trace(0), NONE);
        due("1 constants", PoleLogs.NONE + 10L * PoleLogs.BAD + 100L * PoleLogs.STATE + 1000L * PoleLogs.FULL, -4321);
        due("1 NO", PoleLogs.NO, NO);
    }

    private static void p2() {
        PoleLogs x = new PoleLogs();
        due("2 pass 0", x.pass(0), BAD);
        due("2 pass 21", x.pass(21), BAD);
        due("2 pass max", x.pass(MAX), BAD);
        due("2 pass min", x.pass(MIN), BAD);
        for (int i = 1; i <= 4; i++) {
            due("2 pass 20", x.pass(20), 20 * i);
        }
        due("2 pass beyond 99", x.pass(20), BAD);
        due("2 pass 19", x.pass(19), 99);
        due("2 pass 1", x.pass(1), BAD);
        due("2 now", x.count(0), 99);
    }

    private static void p3() {
        PoleLogs x = new PoleLogs();
        due("3 cell 64", x.drift(64, 0, 0), NONE);
        due("3 cell -1", x.drift(-1, 99, 0), NONE);
        due("3 dx", x.drift(0, 31, 0), BAD);
        due("3 dx", x.drift(0, -31, 0), BAD);
        due("3 dy", x.drift(0, 0, 31), BAD);
        due("3 dy", x.drift(0, 0, -31), BAD);
        due("3 ok", x.drift(0, -30, 30), 1);
        due("3 ok", x.drift(63, 30, -30), 1);
        due("3 start", x.start(0, -400, -400), 1);
        due("3 x stays, y drifts", x.place(0, 0, 0), 0 * 1000 + 30);
        due("3 y drifts on", x.place(0, 2, 0), 90);
        due("3 out of the cell", x.place(0, 4, 0), 120);
    }

    private static void p4() {
        PoleLogs x = new PoleLogs();
        due("4 cell", x.ice(64, 0, 0), NONE);
        due("4 cell", x.ice(-1, 5, 0), NONE);
        due("4 what", x.ice(0, 2, 0), NONE);
        due("4 what", x.ice(0, -1, 0), NONE);
        due("4 ridge", x.ice(0, 0, 10), BAD);
        due("4 ridge", x.ice(0, 0, -1), BAD);
        due("4 turn", x.ice(0, 1, 9), BAD);
        due("4 turn", x.ice(0, 1, -8), BAD);
        due("4 ok", x.ice(0, 0, 9), 1);
        due("4 ok", x.ice(0, 1, 8), 1);
        due("4 ok", x.ice(0, 1, -7), 1);
        due("4 compass", x.compass(0, 0, 9), 0);
        due("4 turn is -7", x.fits(0, -400, -301), 1);
        due("4 other cell", x.fits(0, -400, -300), 0);
        due("4 other cell", x.fits(0, -300, -301), 0);
    }

    private static void p5to6() {
        PoleLogs x = new PoleLogs();
        due("5 day", x.sun(200, 0), NONE);
        due("5 day", x.sun(-1, 9999), NONE);
        due("5 minutes", x.sun(0, 1501), BAD);
        due("5 minutes", x.sun(0, -1), BAD);
        due("5 was", x.sun(199, 1500), 0);
        due("5 was", x.sun(199, 7), 1500);
        due("5 was", x.sun(199, 0), 7);
        due("5 other day", x.sun(198, 0), 0);
        due("6 strength", x.man(0, 0), BAD);
        due("6 strength", x.man(21, 0), BAD);
        due("6 skill", x.man(1, -1), BAD);
        due("6 skill", x.man(1, 10), BAD);
        for (int i = 0; i < 12; i++) {
            due("6 man", x.man(i + 1, i % 10), i);
        }
        due("6 bad ahead of full", x.man(0, 0), BAD);
        due("6 full", x.man(20, 9), FULL);
        due("6 men", x.count(1), 12);
    }

    private static void p7to9() {
        PoleLogs x = new PoleLogs();
        due("7 log", x.party(2, 0, 0, 0), NONE);
        due("7 log", x.party(-1, 9, 0, 0), NONE);
        due("7 nobody", x.party(0, 0, 0, 0), 1);
        due("7 no such man", x.party(0, 1, 0, 0), BAD);
        x.man(20, 9);
        x.man(7, 1);
        due("7 no such man", x.party(0, 4, 0, 0), BAD);
        due("7 below 0", x.party(0, -1, 0, 0), BAD);
        due("7 dogs", x.party(0, 1, 100, 0), BAD);
        due("7 dogs", x.party(0, 1, -1, 0), BAD);
        due("7 load", x.party(0, 1, 0, 10000), BAD);
        due("7 load", x.party(0, 1, 0, -1), BAD);
        due("7 ok", x.party(0, 3, 99, 9999), 1);
        due("7 can", x.can(0, 0), 81 + 198 - 99);
        due("7 other log", x.can(1, 0), 0);
        due("7 again", x.party(0, 2, 0, 199), 1);
        due("7 can", x.can(0, 0), 20);
        due("8 log", x.start(2, 0, 0), NONE);
        due("8 log", x.start(-1, 400, 0), NONE);
        due("8 x", x.start(0, 400, 0), BAD);
        due("8 x", x.start(0, -401, 0), BAD);
        due("8 y", x.start(0, 0, 400), BAD);
        due("8 y", x.start(0, 0, -401), BAD);
        due("8 ok", x.start(0, 399, -400), 1);
        due("8 place", x.place(0, -1, 0), 799000);
        due("8 other log", x.place(1, -1, 0), 400100);
        due("9 log", x.claim(2, 0, 0, 0), NONE);
        due("9 day", x.claim(0, 0, 0, 200), BAD);
        due("9 day", x.claim(0, 0, 0, -2), BAD);
        due("9 x", x.claim(0, 400, 0, 0), BAD);
        due("9 y", x.claim(0, 0, -401, 0), BAD);
        due("9 no claim yet", x.made(0, 0), STATE);
        due("9 ok", x.claim(0, -400, 399, 199), 1);
        due("9 claim", x.made(0, 0), 0);
        due("9 none", x.claim(0, MAX, MIN, -1), 1);
        due("9 no claim", x.made(0, 0), STATE);
        due("9 no log", x.claim(-1, MAX, MIN, -1), NONE);
    }

    private static void p10() {
        PoleLogs x = new PoleLogs();
        due("10 log", x.march(2, 0, 0, 0, 0), NONE);
        due("10 day", x.march(0, 200, 0, 0, 0), NONE);
        due("10 day", x.march(0, -1, 99, 0, 0), NONE);
        due("10 hours", x.march(0, 0, 25, 0, 0), BAD);
        due("10 hours", x.march(0, 0, -1, 0, 0), BAD);
        due("10 pace", x.march(0, 0, 0, 61, 0), BAD);
        due("10 pace", x.march(0, 0, 0, -1, 0), BAD);
        due("10 bearing", x.march(0, 0, 0, 0, 16), BAD);
        due("10 bearing", x.march(0, 0, 0, 0, -1), BAD);
        due("10 row", x.march(0, 0, 24, 60, 15), 0);
        due("10 there is one", x.march(0, 0, 0, 0, 0), STATE);
        due("10 bad ahead of state", x.march(0, 0, 25, 0, 0), BAD);
        due("10 other log", x.march(1, 0, 0, 0, 0), 1);
        for (int i = 2; i < 120; i++) {
            due("10 row", x.march(0, i, 0, 0, 0), i);
        }
        due("10 state ahead of full", x.march(0, 5, 0, 0, 0), STATE);
        due("10 full", x.march(0, 1, 0, 0, 0), FULL);
        due("10 rows", x.count(2), 120);
    }

    private static void p11() {
        PoleLogs x = new PoleLogs();
        due("11 log", x.height(2, 0, 0, 0, false), NONE);
        due("11 day", x.height(0, 200, 0, 0, false), NONE);
        due("11 day", x.height(0, -1, -1, 0, false), NONE);
        due("11 minutes", x.height(0, 0, 5401, 0, false), BAD);
        due("11 minutes", x.height(0, 0, -1, 0, true), BAD);
        due("11 error", x.height(0, 0, 0, 61, true), BAD);
        due("11 error", x.height(0, 0, 0, -1, false), BAD);
        due("11 height", x.height(0, 0, 5400, 60, false), 0);
        due("11 made", x.height(0, 0, 0, 0, true), 1);
        due("11 kind", x.of(0, 0), 2);
        due("11 kind", x.of(1, 0), 6);
        for (int i = 2; i < 120; i++) {
            due("11 row", x.height(1, 199, 1, 1, false), i);
        }
        due("11 bad ahead of full", x.height(1, 199, 1, 61, false), BAD);
        due("11 full", x.height(1, 199, 1, 1, false), FULL);
        due("12 full", x.compass(1, 199, 1), FULL);
        due("13 full", x.picture(1, 199, 1, 1, 1), FULL);
        x.man(1, 1);
        due("14 full", x.word(1, 199, 0, 0, 0, 1), FULL);
        x.tape(0, 1, 2);
        due("15 no room", x.torn(0, 0, 0, 0, 2, 0), 0);
    }

    private static void p12to14() {
        PoleLogs x = new PoleLogs();
        due("12 log", x.compass(-1, 0, 0), NONE);
        due("12 day", x.compass(0, 200, 16), NONE);
        due("12 points", x.compass(0, 0, 16), BAD);
        due("12 points", x.compass(0, 0, -1), BAD);
        due("12 row", x.compass(0, 0, 15), 0);
        due("12 kind", x.of(0, 0), 3);
        due("13 log", x.picture(2, 0, 1, 1, 0), NONE);
        due("13 day", x.picture(0, 200, 0, 1, 0), NONE);
        due("13 staff", x.picture(0, 0, 0, 1, 0), BAD);
        due("13 staff", x.picture(0, 0, 1000, 1, 0), BAD);
        due("13 shadow", x.picture(0, 0, 1, 0, 0), BAD);
        due("13 shadow", x.picture(0, 0, 1, 1000, 0), BAD);
        due("13 tilt", x.picture(0, 0, 1, 1, 10), BAD);
        due("13 tilt", x.picture(0, 0, 1, 1, -1), BAD);
        due("13 row", x.picture(1, 199, 999, 1, 9), 1);
        due("13 kind", x.of(1, 0), 4);
        due("14 no man", x.word(0, 0, 0, 0, 0, 0), NONE);
        x.man(3, 3);
        due("14 log", x.word(2, 0, 0, 0, 0, 0), NONE);
        due("14 day", x.word(0, -1, 0, 0, 0, 0), NONE);
        due("14 man", x.word(0, 0, 1, 400, 0, 0), NONE);
        due("14 man", x.word(0, 0, -1, 0, 0, 0), NONE);
        due("14 x", x.word(0, 0, 0, 400, 0, 0), BAD);
        due("14 y", x.word(0, 0, 0, 0, -401, 0), BAD);
        due("14 miles", x.word(0, 0, 0, 0, 0, 201), BAD);
        due("14 miles", x.word(0, 0, 0, 0, 0, -1), BAD);
        due("14 row", x.word(0, 0, 0, -400, 399, 200), 2);
        due("14 kind", x.of(2, 0), 5);
    }

    private static void p15() {
        PoleLogs x = new PoleLogs();
        due("15 log", x.torn(2, 0, 0, 0, 1, 0), NONE);
        due("15 day", x.torn(0, 200, 0, 0, 1, 0), NONE);
        due("15 tape", x.torn(0, 0, 6, 0, 99, 0), NONE);
        due("15 tape", x.torn(0, 0, -1, 0, 1, 0), NONE);
        due("15 n", x.torn(0, 0, 0, 0, 0, 0), BAD);
        due("15 n", x.torn(0, 0, 0, 0, 41, 0), BAD);
        due("15 error", x.torn(0, 0, 0, 0, 1, -1), BAD);
        due("15 missing", x.torn(0, 0, 0, 0, 1, 60), 0);
        for (int sort = 0; sort <= 4; sort++) {
            x.tape(1, sort, 3);
            due("15 sort " + sort, x.torn(0, 0, 1, 3, 1, 0), sort == 1 ? 0 : CAST);
        }
        due("15 bad ahead of cast", x.torn(0, 0, 1, 0, 0, 0), BAD);
        x.tape(0, 1, 60);
        x.item(0, 0, -1);
        x.item(0, 1, 10);
        x.item(0, 2, -2);
        x.item(0, 3, 20);
        due("15 ends at -2", x.torn(1, 5, 0, 0, 40, 7), 1);
        due("15 day", x.of(0, 2), 6);
        due("15 log", x.of(0, 1), 1);
        due("15 kind", x.of(0, 0), 2);
        due("15 minutes", x.of(0, 4), 10);
        due("15 error", x.of(0, 5), 7);
        due("15 place below 0", x.torn(1, 5, 0, -1, 40, 7), 0);
        due("15 place min", x.torn(1, 5, 0, MIN, 40, 7), 0);
        due("15 place max", x.torn(1, 5, 0, MAX, 40, 7), 0);
        due("15 day 199", x.torn(1, 199, 0, 3, 40, 7), 1);
        due("15 n is the bound", x.torn(1, 0, 0, 3, 2, 7), 2);
        due("15 end of the tape", x.torn(1, 0, 0, 50, 40, 7), 10);
        due("15 all", x.torn(0, 0, 0, 3, 40, 0), 40);
        due("15 all", x.torn(0, 0, 0, 3, 40, 0), 40);
        due("15 no room", x.torn(0, 0, 0, 3, 40, 0), 26);
        due("15 rows", x.count(2), 120);
    }

    private static void p16() {
        PoleLogs x = new PoleLogs();
        x.man(4, 4);
        x.pass(9);
        x.march(1, 3, 5, 6, 7);
        x.height(0, 1, 100, 2, false);
        x.height(0, 1, 101, 3, true);
        x.compass(1, 2, 11);
        x.picture(0, 4, 8, 9, 1);
        x.word(1, 5, 0, -6, 12, 13);
        int[][] want = {
            {1, 1, 3, 9, 5, 6, 7, NO},
            {2, 0, 1, 9, 100, 2, NO, NO},
            {6, 0, 1, 9, 101, 3, NO, NO},
            {3, 1, 2, 9, 11, NO, NO, NO},
            {4, 0, 4, 9, 8, 9, 1, NO},
            {5, 1, 5, 9, 0, -6, 12, 13}};
        for (int row = 0; row < 6; row++) {
            for (int what = 0; what < 8; what++) {
                due("16 of " + row + " " + what, x.of(row, what), want[row][what]);
            }
            due("16 what 8", x.of(row, 8), NO);
            due("16 what -1", x.of(row, -1), NO);
        }
        due("16 row", x.of(6, 0), NO);
        due("16 row", x.of(-1, 0), NO);
        due("16 row", x.of(MAX, 0), NO);
    }

    private static void p17() {
        PoleLogs x = new PoleLogs();
        x.man(4, 4);
        x.sun(0, 100);
        x.height(0, 0, 110, 3, true);
        due("17 row", x.fits(1, 0, 0), NONE);
        due("17 row", x.fits(-1, 400, 0), NONE);
        due("17 place", x.fits(0, 400, 0), BAD);
        due("17 place", x.fits(0, 0, -401), BAD);
        // lets 5390 - 3 to 5390 + 3
        due("17 lat 5386", x.fits(0, 14, 0), 0);
        due("17 lat 5387", x.fits(0, 0, -13), 1);
        due("17 lat 5393", x.fits(0, 7, 0), 1);
        due("17 lat 5394", x.fits(0, 6, 0), 0);
        x.word(0, 0, 0, 10, -10, 5);
        due("17 word", x.fits(1, 15, -15), 1);
        due("17 word", x.fits(1, 5, -5), 1);
        due("17 word", x.fits(1, 16, -10), 0);
        due("17 word", x.fits(1, 10, -4), 0);
        // 100 * 7 / 60 is 11; 9 to 13
        x.picture(0, 0, 7, 60, 2);
        due("17 picture 8", x.fits(2, 385, 0), 0);
        due("17 picture 9", x.fits(2, 386, 0), 1);
        due("17 picture 12", x.fits(2, 399, 399), 1);
        x.sun(0, 157);
        due("17 picture 13", x.fits(2, 399, 399), 1);
        x.sun(0, 158);
        due("17 picture 14", x.fits(2, 399, 399), 0);
        x.march(0, 0, 1, 10, 3);
        due("17 march beyond", x.fits(3, 0, 0), 0);
        x.party(0, 1, 0, 0);
        due("17 march", x.fits(3, 0, 0), 1);
        x.ice(12, 0, 2);
        due("17 miles 1, can 4", x.fits(3, 0, 0), 1);
        x.ice(12, 0, 3);
        due("17 miles 1, can 0", x.fits(3, 399, 399), 0);
        x.compass(0, 0, 1);
        due("17 compass", x.fits(4, 0, 0), 0);
        x.ice(36, 1, -2);
        due("17 compass turned", x.fits(4, 0, 0), 1);
        due("17 compass of the cell", x.fits(4, 0, -1), 0);
        x.compass(0, 1, 14);
        due("17 compass without a march", x.fits(5, 0, 0), 1);
    }

    private static void p18() {
        PoleLogs x = new PoleLogs();
        due("18 log", x.place(2, 0, 0), NONE);
        due("18 day", x.place(0, -2, 0), NONE);
        due("18 day", x.place(0, 200, 0), NONE);
        due("18 year", x.place(0, 0, -1), NONE);
        due("18 year", x.place(0, 0, 100), NONE);
        x.start(0, 0, 0);
        int[] dx = {0, 383, 707, 924, 1000, 924, 707, 383, 0, -383, -707, -924, -1000, -924, -707, -383};
        for (int b = 0; b < 16; b++) {
            x.march(0, b, 23, 15, b);
        }
        // 23 * 15 / 10 is 34
        int px = 0;
        int py = 0;
        for (int b = 0; b < 16; b++) {
            px += 34 * dx[b] / 1000;
            py += 34 * dx[(b + 4) % 16] / 1000;
            due("18 bearing " + b, x.place(0, b, 0), 1000 * (px + 400) + py + 400);
        }
        due("18 day -1", x.place(0, -1, 0), 400400);
        x.pass(2);
        x.march(1, 0, 10, 10, 0);
        due("18 by year 1", x.place(1, 0, 1), 400100);
        due("18 by year 2", x.place(1, 0, 2), 400110);
        // the drift is that of the cell that the march reaches
        x.drift(12, 1, 2);
        x.drift(20, 5, -6);
        x.march(1, 1, 24, 60, 0);
        due("18 drift of day 0", x.place(1, 0, 99), 401112);
        due("18 drift of the new cell", x.place(1, 1, 99), 406250);
        // the march stays within ahead of the drift
        x.start(1, 0, 399);
        x.drift(60, 0, -30);
        due("18 held, then drifted", x.place(1, 0, 99), 400769);
        due("18 held, then drifted", x.place(1, 1, 99), 400769);
    }

    private static void p19to20() {
        PoleLogs x = new PoleLogs();
        due("19 log", x.can(2, 0), NONE);
        due("19 day", x.can(0, -1), NONE);
        due("19 day", x.can(0, 200), NONE);
        due("20 log", x.beyond(-1, 0), NONE);
        due("20 what", x.beyond(0, 2), NONE);
        due("20 what", x.beyond(0, -1), NONE);
        x.man(5, 0);
        x.party(0, 1, 10, 599);
        // 15 + 20 - 5
        due("19 can", x.can(0, 199), 30);
        x.march(0, 3, 10, 30, 0);
        due("20 just what it can", x.beyond(0, 0), 0);
        due("20 none", x.beyond(0, 1), ANY);
        x.march(0, 5, 10, 31, 0);
        due("20 one more", x.beyond(0, 0), 1);
        due("20 day", x.beyond(0, 1), 5);
        x.march(0, 1, 10, 31, 8);
        due("20 two", x.beyond(0, 0), 2);
        due("20 the first of several", x.beyond(0, 1), 1);
        // START's cell is 12; day 1 goes to cell 4, day 3 back to 12
        x.start(0, 0, -280);
        x.ice(12, 0, 7);
        due("19 ridge ahead of the march", x.can(0, 1), 2);
        due("20 most beyond", x.beyond(0, 1), 1);
        due("19 from cell 4", x.can(0, 3), 30);
        due("19 from cell 12", x.can(0, 5), 2);
        x.ice(12, 0, 8);
        due("19 0 at least", x.can(0, 5), 0);
        due("20 other log", x.beyond(1, 0), 0);
        x.pass(1);
        x.march(0, 9, 24, 60, 0);
        due("20 all that is told", x.beyond(0, 1), 9);
        x.march(1, 199, 1, 10, 0);
        due("20 the last day", x.beyond(1, 1), 199);
    }

    private static void p21to22() {
        PoleLogs x = new PoleLogs();
        due("21 pole", x.latitude(0, 0), 5400);
        due("21 half cut", x.latitude(7, -10), 5387);
        due("21 half cut", x.latitude(-10, 7), 5387);
        due("21 far", x.latitude(-400, -400), 4800);
        due("21 bad", x.latitude(400, 0), BAD);
        due("21 bad", x.latitude(0, -401), BAD);
        due("21 bad", x.latitude(MIN, MAX), BAD);
        due("22 log", x.quarrel(2), NONE);
        due("22 log", x.quarrel(-1), NONE);
        x.height(0, 1, 100, 5, false);
        x.height(0, 2, 900, 5, false);
        x.height(1, 1, 900, 5, false);
        x.height(0, 1, 110, 5, true);
        due("22 they touch", x.quarrel(0), ANY);
        x.height(0, 1, 116, 5, true);
        due("22 first and fifth", x.quarrel(0), 4);
        x.height(0, 1, 99, 5, false);
        due("22 still these", x.quarrel(0), 4);
        due("22 other log", x.quarrel(1), ANY);
        x.height(1, 1, 889, 5, false);
        due("22 lesser first", x.quarrel(1), 2006);
    }

    private static void p23() {
        PoleLogs x = new PoleLogs();
        due("23 log", x.home(2), NONE);
        x.march(0, 0, 10, 10, 3);
        x.compass(0, 0, 3);
        due("23 no turn", x.home(0), 0);
        x.ice(12, 1, -3);
        due("23 turn", x.home(0), 1);
        x.compass(0, 0, 2);
        due("23 not the bearing", x.home(0), 1);
        x.compass(0, 9, 0);
        due("23 no march", x.home(0), 2);
        due("23 other log", x.home(1), 0);
        // the cell behind the day
        x.start(0, -1, -300);
        x.ice(12, 1, 0);
        x.ice(11, 1, 1);
        due("23 gone from cell 11", x.home(0), 0);
    }

    private static void p24to25() {
        PoleLogs x = new PoleLogs();
        due("24 no claim", x.needs(0, 0), NO);
        due("25 log", x.held(2, 0, 1), NONE);
        due("25 tape", x.held(0, 6, 0), NONE);
        due("25 n", x.held(0, 0, 0), BAD);
        due("25 n", x.held(0, 0, 11), BAD);
        due("25 no claim", x.held(0, 0, 1), STATE);
        x.claim(0, 10, -310, 2);
        due("24 log", x.needs(2, 0), NO);
        due("24 what", x.needs(0, 2), NO);
        due("24 what", x.needs(0, -1), NO);
        due("24 dx", x.needs(0, 0), 3);
        due("24 dy cut down", x.needs(0, 1), -4);
        x.claim(0, 10, -310, 0);
        due("24 day 0", x.needs(0, 1), -10);
        x.claim(0, 10, -310, 2);
        due("25 nothing", x.held(0, 0, 1), NOTHING);
        x.tape(0, 1, 60);
        due("25 cast", x.held(0, 0, 1), CAST);
        x.tape(0, 0, 5);
        due("25 place", x.held(0, 0, 3), PLACE);
        due("25 none", x.held(0, 0, 2), ANY);
        x.item(0, 2, 4);
        x.item(0, 3, -5);
        due("25 one off each", x.held(0, 0, 2), 1);
        due("25 none of the first", x.held(0, 0, 1), ANY);
        x.item(0, 0, 2);
        x.item(0, 1, -3);
        due("25 the first", x.held(0, 0, 2), 0);
        x.item(0, 0, 1);
        due("25 dx two off", x.held(0, 0, 2), 1);
        x.item(0, 0, 3);
        x.item(0, 1, -2);
        due("25 dy two off", x.held(0, 0, 2), 1);
        x.tape(0, 0, 20);
        x.item(0, 18, 3);
        x.item(0, 19, -4);
        due("25 the tenth", x.held(0, 0, 10), 9);
    }

    private static void p26to27() {
        PoleLogs x = new PoleLogs();
        due("26 log", x.falses(2, 0, 0, 0), NONE);
        due("26 story", x.falses(0, 3, 0, 0), NONE);
        due("26 story", x.falses(0, -1, 100, 0), NONE);
        due("26 year", x.falses(0, 0, 0, 100), NONE);
        due("26 year", x.falses(0, 0, 0, -1), NONE);
        due("26 n", x.falses(0, 2, 100, 0), BAD);
        due("26 n", x.falses(0, 1, -1, 0), BAD);
        due("26 no claim", x.falses(0, 0, 0, 0), STATE);
        due("26 no claim", x.falses(0, 1, 0, 0), STATE);
        due("26 never", x.falses(0, 2, 0, 0), 0);
        due("27 log", x.least(2, 0, 0), NONE);
        due("27 year", x.least(0, 0, 100), NONE);
        due("27 n", x.least(0, 100, 0), BAD);
        due("27 no claim", x.least(0, 0, 0), STATE);
        x.claim(0, 0, 0, 1);
        due("27 all alike", x.least(0, 0, 0), 0);
        x.man(1, 1);
        x.word(0, 1, 0, 0, -300, 0);
        due("26 there", x.falses(0, 0, 0, 0), 1);
        due("26 near 0", x.falses(0, 1, 0, 0), 0);
        due("26 near 1", x.falses(0, 1, 1, 0), 1);
        due("26 never", x.falses(0, 2, 0, 0), 0);
        due("27 of several the least", x.least(0, 0, 0), 1);
        due("27 never", x.least(0, 1, 0), 2);
        x.pass(1);
        x.word(0, 1, 0, 0, 0, 0);
        x.word(0, 1, 0, 1, 1, 1);
        due("26 by year 0", x.falses(0, 1, 0, 0), 0);
        due("26 by year 1", x.falses(0, 1, 0, 1), 2);
        due("26 there, year 1", x.falses(0, 0, 0, 1), 1);
        due("27 by year 1", x.least(0, 0, 1), 0);
        due("27 by year 0", x.least(0, 0, 0), 1);
        x.word(1, 1, 0, 300, 300, 0);
        due("26 other log", x.falses(0, 0, 0, 1), 1);
        x.march(0, 5, 24, 60, 0);
        due("26 a march beyond is false in each", x.falses(0, 2, 0, 1), 3);
    }

    private static void nearAndNever() {
        PoleLogs x = new PoleLogs();
        x.man(20, 1);
        x.party(0, 1, 0, 0);
        x.march(0, 0, 10, 20, 0);
        x.march(0, 1, 10, 20, 0);
        x.march(0, 2, 10, 20, 0);
        x.claim(0, 50, 50, 1);
        x.word(0, 0, 0, 0, -280, 0);
        x.word(0, 1, 0, 0, -270, 0);
        x.word(0, 2, 0, 0, -250, 0);
        due("26 near from the claim's day on", x.falses(0, 1, 10, 0), 0);
        due("26 there on others the way", x.falses(0, 0, 0, 0), 2);
        due("26 never", x.falses(0, 2, 0, 0), 3);
        x.start(0, 0, -400);
        x.claim(0, 50, 50, 0);
        x.word(0, 0, 0, 0, -400, 0);
        due("26 near stays within", x.falses(0, 1, 99, 0), 3);
        due("26 never at the start", x.falses(0, 2, 0, 0), 3);
        due("26 marches by the year's way", x.falses(0, 0, 0, 0), 4);
    }

    private static void p28to29() {
        PoleLogs x = new PoleLogs();
        due("28 day", x.misprint(200, 0), NONE);
        due("28 day", x.misprint(-1, 9999), NONE);
        due("28 v", x.misprint(0, 1501), BAD);
        due("28 v", x.misprint(0, -2), BAD);
        due("28 was none", x.misprint(199, 1500), -1);
        due("28 was", x.misprint(199, 0), 1500);
        due("40 misprints", x.count(6), 1);
        due("28 was", x.misprint(199, -1), 0);
        due("40 misprints", x.count(6), 0);
        due("29 log", x.made(2, 0), NONE);
        due("29 what", x.made(0, 2), NONE);
        due("29 what", x.made(0, -1), NONE);
        due("29 no claim", x.made(0, 1), STATE);
        x.claim(0, 20, 10, 3);
        // LATITUDE 5375
        x.sun(7, 200);
        x.height(0, 7, 225, 60, false);
        x.height(0, 7, 215, 60, true);
        x.height(0, 7, 216, 60, true);
        x.height(1, 7, 225, 60, false);
        due("29 no misprint", x.made(0, 0), 0);
        due("29 by sun", x.made(0, 1), 1);
        x.misprint(7, 190);
        due("29 shows", x.made(0, 0), 1);
        due("29 at home", x.made(0, 1), 2);
        x.misprint(7, 200);
        due("29 both are one", x.made(0, 1), 1);
        due("29 shows", x.made(0, 0), 1);
        x.height(0, 9, 25, 0, false);
        x.sun(9, 1);
        due("29 no misprint on day 9", x.made(0, 0), 1);
        x.misprint(9, 0);
        due("29 a misprint of 0", x.made(0, 0), 2);
        x.misprint(9, -1);
        x.misprint(6, 191);
        due("29 of its day alone", x.made(0, 0), 1);
        x.claim(1, 0, 0, 0);
        due("29 other log", x.made(1, 1), 0);
    }

    private static void p30() {
        PoleLogs x = new PoleLogs();
        due("30 n", x.feed(0, 5), BAD);
        due("30 n", x.feed(0, -1), BAD);
        due("30 none", x.feed(-1, 0), 0);
        due("30 highest first", x.feed(0x683c3131, 4), 4);
        due("30 law", x.law(0, 0), 0);
        due("30 lowest", x.feed(0x7f683d39, 3), 3);
        due("30 law", x.law(0, 0), 1);
        due("30 two", x.feed(0x7f7f683e, 2), 2);
        due("30 one", x.feed(0x7f7f7f30, 1), 3);
        due("30 law", x.law(0, 0), 2);
        for (int i = 1; i <= 20; i++) {
            due("30 fed", x.feed(-1, 4), 4 * i);
        }
        due("30 full", x.feed(0, 1), FULL);
        due("30 none fits", x.feed(0, 0), 80);
        due("30 bad ahead of full", x.feed(0, 5), BAD);
        due("30 bytes", x.count(4), 80);
        due("30 fault", x.law(0, 0), -10);
        for (int i = 1; i <= 78; i++) {
            x.feed('h', 1);
        }
        due("30 all or none", x.feed(0, 3), FULL);
        due("30 just so", x.feed(0, 2), 80);
    }

    private static void p31() {
        PoleLogs x = new PoleLogs();
        feed(x, "h>1");
        due("31 committee", x.law(6, 0), NONE);
        due("31 committee", x.law(-1, 100), NONE);
        due("31 year", x.law(0, 100), BAD);
        due("31 year", x.law(0, -1), BAD);
        due("31 the text stays", x.count(4), 3);
        due("31 number", x.law(5, 99), 0);
        due("31 the text is empty", x.count(4), 0);
        due("31 empty text", x.law(0, 0), -10);
        String letters = "hcpwmfksq";
        for (int i = 0; i < letters.length(); i++) {
            due("31 letter", law(x, 1, 0, letters.charAt(i) + "<123"), i + 1);
        }
        due("31 laws", x.count(3), 10);
        due("31 eleventh", law(x, 0, 0, "!(h<1|c=2&p>3)&w=000"), 10);
        StringBuilder longest = new StringBuilder("h>12");
        for (int i = 0; i < 19; i++) {
            longest.append("|c<9");
        }
        due("31 80 bytes", law(x, 0, 0, longest.toString()), 11);
        feed(x, "h>");
        due("31 full ahead of the fault", x.law(0, 0), FULL);
        due("31 bad ahead of full", x.law(0, 100), BAD);
        due("31 the text stays", x.count(4), 2);
    }

    private static void p31viable() {
        PoleLogs x = new PoleLogs();
        String[] texts = {
            "x", "h", "h>", "h>1|", "h>1&", "h>1&&", "h>1||h>1", "hh", "h1", "h>>1", "h>1>", "h>1h", "h>1!",
            "h>1(", "h>1234", "h>123)", "(", "(h", "(h>1", "(h>1(", "()", "(h>1)h", "(h>1))", "!", "!)", "!!!!!h>1",
            "!!!!h>1!", "!(!(!h>1))", "(((!(h>1))))", "!h>1&!!!!!h>1", "(h>1)|(((((h>1", "H>1", "h >1", "h>a",
            "h>-1", "(h>1|", "(h>1&c<2|", "((((h>1)))", "((((h>12345", "h\u00ff"};
        int[] faults = {
            0, 1, 2, 4, 4, 4, 4, 1, 1, 2, 3, 3, 3,
            3, 5, 5, 1, 2, 4, 4, 1, 5, 5, 1, 1, 4,
            7, 4, 4, 9, 10, 0, 1, 2,
            2, 5, 9, 10, 9, 1};
        for (int i = 0; i < texts.length; i++) {
            due("31 fault of " + texts[i], law(x, 0, 0, texts[i]), -10 - faults[i]);
            due("31 empty then", x.count(4), 0);
        }
        due("31 none of them", x.count(3), 0);
        due("31 four deep", law(x, 0, 0, "!(!(h>1))&((((h=1))))|!!!!q=1"), 0);
    }

    private static void p32() {
        PoleLogs x = new PoleLogs();
        x.man(1, 4);
        x.man(1, 5);
        x.party(0, 3, 0, 0);
        x.claim(0, 0, 0, 0);
        x.sun(0, 50);
        x.height(0, 0, 50, 0, false);
        x.height(0, 0, 53, 0, true);
        x.height(0, 0, 52, 2, false);
        x.compass(0, 0, 0);
        x.compass(0, 0, 1);
        x.picture(0, 0, 1, 100, 1);
        x.picture(0, 0, 9, 100, 1);
        x.picture(0, 0, 1, 999, 0);
        x.word(0, 0, 0, 1, 1, 1);
        x.word(0, 0, 0, 1, 2, 1);
        x.word(0, 1, 1, 0, 300, 1);
        x.word(0, 1, 1, 0, -300, 1);
        x.march(0, 3, 10, 7, 0);
        x.misprint(0, 53);
        String[] tests = {"h=2", "c=1", "p=2", "w=2", "m=1", "f=6", "k=2", "s=9", "q=1"};
        for (int i = 0; i < tests.length; i++) {
            due("32 law", law(x, 0, i, tests[i]), i);
            due("32 " + tests[i], x.says(0, 0, i), 1);
        }
        due("32 law", law(x, 1, 0, "h<2|h>2&s=9|(s<9)"), 9);
        due("32 no", x.says(1, 0, 0), 0);
        due("32 law", law(x, 1, 0, "h=9&h=9|s=9"), 10);
        due("32 the latest; & binds more", x.says(1, 0, 0), 1);
        due("32 law", law(x, 1, 0, "h=9&(h=9|s=9)|!s<10"), 11);
        due("32 brackets, not", x.says(1, 0, 0), 0);
        due("32 committee", x.says(6, 0, 0), NONE);
        due("32 log", x.says(0, 2, 0), NONE);
        due("32 year", x.says(0, 0, 100), NONE);
        due("32 year", x.says(0, 0, -1), NONE);
        due("32 no law", x.says(2, 0, 0), ANY);
        due("32 no claim", x.says(0, 1, 0), ANY);
        x.claim(0, 0, 0, -1);
        due("32 no claim now", x.says(0, 0, 0), ANY);
    }

    private static void p32years() {
        PoleLogs x = new PoleLogs();
        x.claim(1, 0, -290, 4);
        x.man(9, 9);
        law(x, 3, 10, "w>0");
        law(x, 3, 5, "q=0&f=0&k=0&w=0&h=0");
        due("32 ahead of its laws", x.says(3, 1, 4), ANY);
        due("32 by the year 5 law", x.says(3, 1, 9), 1);
        due("32 by the year 10 law", x.says(3, 1, 10), 0);
        x.pass(8);
        x.word(1, 0, 0, 0, -300, 0);
        x.height(1, 0, 5000, 0, false);
        x.height(1, 0, 4000, 0, false);
        due("32 rows of greater years are not", x.says(3, 1, 7), 1);
        due("32 now they are", x.says(3, 1, 8), 0);
        due("32 the word fits the way", x.says(3, 1, 10), 1);
        x.pass(4);
        x.march(1, 0, 1, 10, 0);
        due("32 a way by year 11", x.says(3, 1, 11), 1);
        due("32 a way by year 12", x.says(3, 1, 12), 0);
    }

    private static void p33to36() {
        PoleLogs x = new PoleLogs();
        due("33 below 0", x.look(-1), BAD);
        due("33 above", x.look(4096), BAD);
        due("35 set", x.next(0), BAD);
        due("35 set", x.next(64), BAD);
        due("35 no looks", x.next(1), STATE);
        due("34 no look", x.worth(0, 0), NONE);
        due("36 no looks", x.worst(63, 4), 6);
        due("36 set", x.worst(0, 0), BAD);
        due("36 set", x.worst(64, 0), BAD);
        due("36 n", x.worst(1, -1), BAD);
        due("36 n", x.worst(1, 5), BAD);
        // tellings 5 .. 0 answer 0 0 0 1 1 1
        due("33 first", x.look(0b000000010101), 0);
        // 0 1 2 0 1 2
        due("33 second", x.look(0b000110000110), 1);
        due("34 halves", x.worth(0, 63), 3);
        due("34 thirds", x.worth(1, 63), 2);
        due("34 part", x.worth(0, 0b001011), 2);
        due("34 one", x.worth(1, 32), 1);
        due("34 look", x.worth(2, 63), NONE);
        due("34 look", x.worth(-1, 0), NONE);
        due("34 set", x.worth(0, 0), BAD);
        due("34 set", x.worth(0, 64), BAD);
        due("35 least worth", x.next(63), 1);
        due("35 of several the least", x.next(0b001001), 0);
        due("35 one alone", x.next(1), 0);
        due("36 0", x.worst(63, 0), 6);
        due("36 1", x.worst(63, 1), 2);
        due("36 2", x.worst(63, 2), 1);
        due("36 4", x.worst(63, 4), 1);
        due("36 part", x.worst(0b000111, 1), 1);
        for (int i = 2; i < 8; i++) {
            due("33 more", x.look(4095), i);
        }
        due("33 bad ahead of full", x.look(4096), BAD);
        due("33 full", x.look(0), FULL);
        due("40 looks", x.count(5), 8);
        due("35 still", x.next(63), 1);
    }

    private static void trace(PoleLogs x, String name, int... bodies) {
        due("40 bodies of " + name, x.count(7), bodies.length);
        for (int i = 0; i < bodies.length; i++) {
            due("38 trace of " + name + " at " + i, x.trace(i), bodies[i]);
        }
        due("38 behind the end of " + name, x.trace(bodies.length), NONE);
        due("38 below 0", x.trace(-1), NONE);
    }

    private static void p37to38() {
        PoleLogs x = new PoleLogs();
        x.man(1, 1);
        x.height(0, 1, 100, 2, false);
        x.march(0, 2, 5, 6, 7);
        x.compass(0, 3, 11);
        x.picture(0, 4, 8, 9, 1);
        x.word(0, 5, 0, 1, 1, 1);
        x.height(0, 6, 200, 2, true);
        due("37 march fits", x.act(1, 0, 7), 12);
        trace(x, "march fits", 10);
        due("37 march hangs", x.act(1, 1, 7), 17);
        trace(x, "march hangs", 20, 11, 10);
        due("37 march shows", x.act(1, 2, 7), 17 ^ 1);
        trace(x, "march shows", 12, 20, 11, 10);
        due("37 height fits", x.act(0, 0, 7), 17);
        trace(x, "height fits", 30, 10);
        due("37 height hangs", x.act(0, 1, 7), 16);
        trace(x, "height hangs", 11, 30, 10);
        due("37 height shows", x.act(0, 2, 7), 16 + 10);
        trace(x, "height shows", 31, 12, 11, 30, 10, 11, 30, 10);
        due("37 compass fits", x.act(2, 0, 23), 18);
        trace(x, "compass fits", 40, 10);
        due("37 compass hangs", x.act(2, 1, -1), 23);
        trace(x, "compass hangs", 11, 40, 10);
        due("37 compass shows", x.act(2, 2, -1), 23 ^ 2);
        trace(x, "compass shows", 12, 11, 40, 10);
        due("37 picture shows", x.act(3, 2, 1), -(5 ^ 3));
        trace(x, "picture shows", 50, 12, 11, 10);
        due("37 word fits", x.act(4, 0, 1), 1);
        trace(x, "word fits", 10);
        due("37 word hangs", x.act(4, 1, 1), -12);
        trace(x, "word hangs", 60, 11, 10);
        due("37 word shows", x.act(4, 2, 1), -12 ^ 4);
        trace(x, "word shows", 12, 60, 11, 10);
        due("37 made fits", x.act(5, 0, 1), 111 + 112);
        trace(x, "made fits", 70, 30, 10, 30, 10);
        due("37 made hangs", x.act(5, 1, 1), 217);
        trace(x, "made hangs", 11, 70, 30, 10, 30, 10);
        due("37 made shows", x.act(5, 2, 1), (215 ^ 5) + 217);
        trace(x, "made shows", 71, 31, 12, 11, 70, 30, 10, 30, 10, 11, 70, 30, 10, 30, 10);
        due("37 wraps", x.act(1, 0, MAX), MIN + 4);
        due("37 wraps", x.act(1, 1, MAX), -2 + 5 - 2);
        due("37 wraps", x.act(4, 1, MIN), (MIN - 5) * 3);
        due("37 no act", x.act(0, 3, 1), 0);
        trace(x, "no act");
        x.act(0, 0, 1);
        due("37 no act", x.act(0, -1, 1), 0);
        trace(x, "no act");
        x.act(0, 0, 1);
        due("37 no row", x.act(6, 0, 1), 0);
        trace(x, "no row");
    }

    private static void p39to40() {
        PoleLogs x = new PoleLogs();
        x.man(1, 1);
        x.march(0, 2, 5, 6, 7);
        x.height(0, 1, 100, 2, false);
        x.compass(0, 3, 11);
        x.picture(0, 4, 8, 9, 1);
        x.word(0, 5, 0, 1, 1, 1);
        x.height(0, 6, 200, 2, true);
        for (int row = 0; row < 6; row++) {
            int kind = row + 1;
            for (int k = 0; k < 7; k++) {
                boolean under = k == 0 || k == kind || kind == 6 && k == 2;
                due("39 row " + row + " as " + k, x.taken(row, k), under ? kind : CAST);
            }
        }
        due("39 no row", x.taken(6, 0), NOTHING);
        due("39 no row", x.taken(-1, 6), NOTHING);
        due("39 k", x.taken(0, 7), BAD);
        due("39 k ahead of the row", x.taken(99, -1), BAD);
        x.pass(3);
        x.feed(0, 2);
        x.look(0);
        x.look(0);
        x.misprint(0, 0);
        int[] want = {3, 1, 6, 0, 2, 2, 1, 0};
        for (int what = 0; what < 8; what++) {
            due("40 count " + what, x.count(what), want[what]);
        }
        due("40 what", x.count(8), BAD);
        due("40 what", x.count(-1), BAD);
    }

    private static void p41to43() {
        PoleLogs x = new PoleLogs();
        due("41 tape", x.tape(6, 0, 1), NONE);
        due("41 tape", x.tape(-1, -1, 1), NONE);
        due("41 sort", x.tape(0, 5, -1), BAD);
        due("41 sort", x.tape(0, -2, 1), BAD);
        due("41 n", x.tape(0, 0, 61), BAD);
        due("41 size", x.tape(0, 0, -1), SIZE);
        due("41 size", x.tape(0, 0, MIN), SIZE);
        due("41 still nothing", x.item(0, 0, 0), NOTHING);
        due("41 empty row", x.tape(0, 2, 0), 1);
        due("42 no place", x.item(0, 0, 0), PLACE);
        due("41 sixty", x.tape(0, 2, 60), 1);
        due("42 last", x.item(0, 59, MIN), 1);
        due("43 last", x.read(0, 59), MIN);
        due("41 anew", x.tape(0, 2, 60), 1);
        due("43 all 0", x.read(0, 59), 0);
        due("41 nothing", x.tape(0, -1, MAX), 1);
        due("43 nothing", x.read(0, 0), NO);
        due("42 tape", x.item(6, 0, 0), NONE);
        due("42 tape", x.item(-1, 0, 0), NONE);
        due("43 tape", x.read(6, 0), NO);
        due("43 tape", x.read(-1, 0), NO);
        int[] values = {0, 1, -1, 127, 128, 255, 256, 32767, 32768, 65535, 65536, MAX, MIN};
        for (int sort = 0; sort < 5; sort++) {
            x.tape(sort, sort, 3);
            due("42 place", x.item(sort, 3, 0), PLACE);
            due("42 place", x.item(sort, -1, MAX), PLACE);
            due("43 place", x.read(sort, 3), NO);
            due("43 place", x.read(sort, -1), NO);
            for (int v : values) {
                boolean bad = sort == 3 && (v > 8000000 || v < -8000000);
                int before = x.read(sort, 1);
                due("42 item", x.item(sort, 1, v), bad ? BAD : 1);
                int[] want = {(byte) v, (short) v, v, bad ? before : v, v != 0 ? 1 : 0};
                due("43 sort " + sort + " of " + v, x.read(sort, 1), want[sort]);
            }
        }
        due("42 float edge", x.item(3, 0, 8000000), 1);
        due("43 float edge", x.read(3, 0), 8000000);
        due("42 float edge", x.item(3, 0, -8000000), 1);
        due("43 float edge", x.read(3, 0), -8000000);
        due("42 float beyond", x.item(3, 0, 8000001), BAD);
        due("42 float odd", x.item(3, 0, 7999999), 1);
        due("43 float odd", x.read(3, 0), 7999999);
    }

    private static void p44() {
        PoleLogs x = new PoleLogs();
        x.tape(0, 2, 5);
        x.tape(1, 2, 3);
        x.tape(2, 1, 3);
        for (int i = 0; i < 5; i++) {
            x.item(0, i, 10 + i);
        }
        due("44 tape", x.shift(6, 0, 0, 0, 1), NONE);
        due("44 other", x.shift(0, 0, -1, 0, 1), NONE);
        due("44 nothing", x.shift(3, 0, 0, 0, -1), NOTHING);
        due("44 nothing", x.shift(0, 0, 3, 0, 1), NOTHING);
        due("44 cast", x.shift(0, 0, 2, 0, -1), CAST);
        due("44 n", x.shift(0, 0, 1, 0, -1), PLACE);
        due("44 i", x.shift(0, -1, 1, 0, 1), PLACE);
        due("44 j", x.shift(0, 0, 1, -1, 1), PLACE);
        due("44 beyond i", x.shift(0, 3, 1, 0, 3), PLACE);
        due("44 beyond j", x.shift(0, 0, 1, 1, 3), PLACE);
        due("44 far", x.shift(0, MAX, 1, 0, 1), PLACE);
        due("44 far", x.shift(0, 1, 1, 0, MAX), PLACE);
        due("44 far", x.shift(0, 0, 1, MAX, MAX), PLACE);
        due("44 none at the ends", x.shift(0, 5, 1, 3, 0), 0);
        due("44 none beyond the end", x.shift(0, 6, 1, 3, 0), PLACE);
        due("44 three", x.shift(0, 2, 1, 0, 3), 3);
        due("44 came", x.read(1, 0) * 10000 + x.read(1, 1) * 100 + x.read(1, 2), 121314);
        due("44 forth", x.shift(0, 0, 0, 1, 4), 4);
        for (int i = 0; i < 5; i++) {
            due("44 as they were", x.read(0, i), i == 0 ? 10 : 9 + i);
        }
        due("44 back", x.shift(0, 2, 0, 0, 3), 3);
        int[] want = {11, 12, 13, 12, 13};
        for (int i = 0; i < 5; i++) {
            due("44 as they were", x.read(0, i), want[i]);
        }
    }

    private static void refusalsChangeNothing() {
        PoleLogs x = new PoleLogs();
        x.man(2, 2);
        x.party(0, 1, 3, 0);
        x.party(0, 1, 5, 10000);
        due("party unchanged", x.can(0, 0), 12);
        x.start(0, 5, 400);
        due("start unchanged", x.place(0, -1, 0), 400100);
        x.claim(0, 1, 1, 1);
        x.claim(0, 400, 1, 2);
        x.claim(0, 2, 2, 200);
        due("claim unchanged", x.needs(0, 0), 0);
        due("claim unchanged", x.needs(0, 1), 150);
        x.drift(12, 9, 31);
        due("drift unchanged", x.place(0, 0, 0), 400100);
        x.sun(0, 5);
        x.sun(0, 1501);
        due("sun unchanged", x.sun(0, 6), 5);
        x.tape(0, 0, 2);
        x.item(0, 0, 9);
        x.tape(0, 1, -1);
        x.tape(0, 1, 61);
        due("tape unchanged", x.read(0, 0), 9);
        x.pass(100);
        due("now unchanged", x.count(0), 0);
    }
}
