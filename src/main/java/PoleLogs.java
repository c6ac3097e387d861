import java.util.Arrays;

/** Two logs of a pole, weighed row by row; ../shared/DOC.md says what each call answers. */
public final class PoleLogs {
    public static final int NONE = -1, BAD = -2, STATE = -3, FULL = -4;
    public static final int NO = -1000000000;

    private static final int NOT_ANY = -5, FAULT_BASE = -10;
    private static final int NOTHING = -11, CAST = -12, NO_PLACE = -13, SIZE = -14;

    private static final int DAYS = 200, YEARS = 100, LAST_YEAR = YEARS - 1;
    private static final int LOW = -400, HIGH = 399, CELLS = 64, POLE_LATITUDE = 5400;
    private static final int LOGS = 2, MEN = 12, ROWS = 120;
    private static final int COMMITTEES = 6, LAWS = 12, TEXT_BYTES = 80;
    private static final int LOOKS = 8, ANSWERS = 4, SETS = 64, LOOK_DEPTH = 4;
    private static final int TAPES = 6, TAPE_ITEMS = 60, TRACED = 20;

    private static final int ROW = 0, MARCH = 1, HEIGHT = 2, COMPASS = 3, PICTURE = 4, WORD = 5, MADE = 6;
    private static final int KINDS = 7;
    private static final int[] ABOVE = {-1, ROW, ROW, ROW, ROW, ROW, HEIGHT};

    private static final int THERE = 0, NEAR = 1, NEVER = 2, STORIES = 3;

    private static final int FITS = 0, HANGS = 1, SHOWS = 2, ACTS = 3;
    /** The body of each KIND for each act; 0: the KIND has none of its own. */
    private static final int[] BODIES = {
        10, 11, 12,
        0, 20, 0,
        30, 0, 31,
        40, 0, 0,
        0, 0, 50,
        0, 60, 0,
        70, 0, 71};
    /** The longest chain of bodies (MADE shows) is 7; nothing that stands in BODIES goes deeper. */
    private static final int BODY_DEPTH = 10;

    private static final int BYTES = 0, SHORTS = 1, FLOATS = 3, BOOLEANS = 4, EMPTY = -1;
    private static final int MOST_EIGHTHS = 8000000;

    /** Thousandths of a mile eastward for each bearing; northward is four points further on. */
    private static final int[] EAST = {
        0, 383, 707, 924, 1000, 924, 707, 383, 0, -383, -707, -924, -1000, -924, -707, -383};

    private static final char[] LETTERS = {'h', 'c', 'p', 'w', 'm', 'f', 'k', 's', 'q'};
    private static final int IS_H = 0, IS_C = 1, IS_P = 2, IS_W = 3, IS_M = 4, IS_F = 5, IS_K = 6, IS_S = 7, IS_Q = 8;
    private static final int NESTING = 4, DIGITS = 3;

    private final Ice ground;
    private final Almanac almanac;
    private final Log[] logs;
    private final Way way;
    private final Row[] rows;
    private final int[] strengths, skills;
    private final Law[] laws;
    private final Reader reader;
    private final int[] text;
    private final Looks looks;
    private final Acts acts;
    private final Tape[] tapes;
    private int now, menCount, rowCount, lawCount, textLength;

    public PoleLogs() {
        ground = new Ice();
        almanac = new Almanac();
        logs = new Log[LOGS];
        for (int i = 0; i < LOGS; i++) {
            logs[i] = new Log();
        }
        way = new Way(ground, logs[0]);
        rows = new Row[ROWS];
        strengths = new int[MEN];
        skills = new int[MEN];
        laws = new Law[LAWS];
        reader = new Reader();
        text = new int[TEXT_BYTES];
        looks = new Looks();
        acts = new Acts();
        tapes = new Tape[TAPES];
        for (int i = 0; i < TAPES; i++) {
            tapes[i] = new Tape();
        }
    }

    // ---- the ice, men, logs

    public int pass(int n) {
        if (!within(n, 1, 20) || now + n > LAST_YEAR) {
            return BAD;
        }
        now += n;
        return now;
    }

    public int drift(int cell, int dx, int dy) {
        if (!within(cell, 0, CELLS - 1)) {
            return NONE;
        }
        if (!within(dx, -30, 30) || !within(dy, -30, 30)) {
            return BAD;
        }
        ground.driftX[cell] = dx;
        ground.driftY[cell] = dy;
        return 1;
    }

    public int ice(int cell, int what, int v) {
        if (!within(cell, 0, CELLS - 1) || !within(what, 0, 1)) {
            return NONE;
        }
        if (what == 0) {
            if (!within(v, 0, 9)) {
                return BAD;
            }
            ground.ridge[cell] = v;
            return 1;
        }
        if (!within(v, -7, 8)) {
            return BAD;
        }
        ground.turn[cell] = v;
        return 1;
    }

    public int sun(int day, int minutes) {
        if (!isDay(day)) {
            return NONE;
        }
        if (!within(minutes, 0, 1500)) {
            return BAD;
        }
        int before = almanac.suns[day];
        almanac.suns[day] = minutes;
        return before;
    }

    public int man(int strength, int skill) {
        if (!within(strength, 1, 20) || !within(skill, 0, 9)) {
            return BAD;
        }
        if (menCount >= MEN) {
            return FULL;
        }
        strengths[menCount] = strength;
        skills[menCount] = skill;
        menCount++;
        return menCount - 1;
    }

    public int party(int log, int men, int dogs, int load) {
        if (!isLog(log)) {
            return NONE;
        }
        if (!within(men, 0, (1 << menCount) - 1) || !within(dogs, 0, 99) || !within(load, 0, 9999)) {
            return BAD;
        }
        Log l = logs[log];
        l.strength = sumOf(strengths, men);
        l.skill = sumOf(skills, men);
        l.dogs = dogs;
        l.load = load;
        return 1;
    }

    public int start(int log, int x, int y) {
        if (!isLog(log)) {
            return NONE;
        }
        if (!isPlace(x, y)) {
            return BAD;
        }
        logs[log].startX = x;
        logs[log].startY = y;
        return 1;
    }

    public int claim(int log, int x, int y, int day) {
        if (!isLog(log)) {
            return NONE;
        }
        if (!within(day, -1, DAYS - 1)) {
            return BAD;
        }
        if (day >= 0 && !isPlace(x, y)) {
            return BAD;
        }
        Log l = logs[log];
        l.claimDay = day;
        if (day >= 0) {
            l.claimX = x;
            l.claimY = y;
        }
        return 1;
    }

    // ---- rows

    public int march(int log, int day, int hours, int pace, int bearing) {
        if (!isLog(log) || !isDay(day)) {
            return NONE;
        }
        if (!within(hours, 0, 24) || !within(pace, 0, 60) || !within(bearing, 0, 15)) {
            return BAD;
        }
        if (logs[log].marches[day] != null) {
            return STATE;
        }
        if (rowCount >= ROWS) {
            return FULL;
        }
        Row row = addRow(log, day, MARCH);
        row.first = hours;
        row.second = pace;
        row.third = bearing;
        logs[log].marches[day] = row;
        return row.number;
    }

    public int height(int log, int day, int minutes, int error, boolean made) {
        if (!isLog(log) || !isDay(day)) {
            return NONE;
        }
        if (!isHeight(minutes) || !within(error, 0, 60)) {
            return BAD;
        }
        if (rowCount >= ROWS) {
            return FULL;
        }
        return addHeight(log, day, made ? MADE : HEIGHT, minutes, error);
    }

    public int compass(int log, int day, int points) {
        if (!isLog(log) || !isDay(day)) {
            return NONE;
        }
        if (!within(points, 0, 15)) {
            return BAD;
        }
        if (rowCount >= ROWS) {
            return FULL;
        }
        Row row = addRow(log, day, COMPASS);
        row.first = points;
        return row.number;
    }

    public int picture(int log, int day, int staff, int shadow, int tilt) {
        if (!isLog(log) || !isDay(day)) {
            return NONE;
        }
        if (!within(staff, 1, 999) || !within(shadow, 1, 999) || !within(tilt, 0, 9)) {
            return BAD;
        }
        if (rowCount >= ROWS) {
            return FULL;
        }
        Row row = addRow(log, day, PICTURE);
        row.first = staff;
        row.second = shadow;
        row.third = tilt;
        return row.number;
    }

    public int word(int log, int day, int man, int x, int y, int miles) {
        if (!isLog(log) || !isDay(day) || !within(man, 0, menCount - 1)) {
            return NONE;
        }
        if (!isPlace(x, y) || !within(miles, 0, 200)) {
            return BAD;
        }
        if (rowCount >= ROWS) {
            return FULL;
        }
        Row row = addRow(log, day, WORD);
        row.first = man;
        row.second = x;
        row.third = y;
        row.fourth = miles;
        return row.number;
    }

    public int torn(int log, int day, int tape, int i, int n, int error) {
        if (!isLog(log) || !isDay(day) || !isTape(tape)) {
            return NONE;
        }
        if (!within(n, 1, 40) || !within(error, 0, 60)) {
            return BAD;
        }
        Tape t = tapes[tape];
        if (t.sort == EMPTY) {
            return 0;
        }
        if (t.sort != SHORTS) {
            return CAST;
        }
        int came = 0;
        for (int k = 0; k < n && t.has(i + k) && isDay(day + k); k++) {
            int minutes = t.items[i + k];
            if (minutes == -1) {
                continue;
            }
            if (!isHeight(minutes) || rowCount >= ROWS) {
                break;
            }
            addHeight(log, day + k, HEIGHT, minutes, error);
            came++;
        }
        return came;
    }

    public int of(int row, int what) {
        if (!isRow(row)) {
            return NO;
        }
        Row r = rows[row];
        switch (what) {
            case 0: return r.kind;
            case 1: return r.log;
            case 2: return r.day;
            case 3: return r.year;
            case 4: return r.first;
            case 5: return r.second;
            case 6: return r.third;
            case 7: return r.fourth;
            default: return NO;
        }
    }

    public int fits(int row, int x, int y) {
        if (!isRow(row)) {
            return NONE;
        }
        if (!isPlace(x, y)) {
            return BAD;
        }
        Row r = rows[row];
        way.walk(logs[r.log], LAST_YEAR, r.day);
        return agrees(r, x, y) ? 1 : 0;
    }

    // ---- ways

    public int place(int log, int day, int year) {
        if (!isLog(log) || !within(day, -1, DAYS - 1) || !isYear(year)) {
            return NONE;
        }
        way.walk(logs[log], year, day);
        return 1000 * (way.xBehind(day) - LOW) + way.yBehind(day) - LOW;
    }

    public int can(int log, int day) {
        if (!isLog(log) || !isDay(day)) {
            return NONE;
        }
        way.walk(logs[log], LAST_YEAR, day);
        return way.reach(day);
    }

    public int beyond(int log, int what) {
        if (!isLog(log) || !within(what, 0, 1)) {
            return NONE;
        }
        way.walk(logs[log], LAST_YEAR, DAYS - 1);
        int marches = 0;
        int most = 0;
        int mostDay = NOT_ANY;
        for (int day = 0; day < DAYS; day++) {
            int excess = way.excess(day);
            if (excess > 0) {
                marches++;
            }
            if (excess > most) {
                most = excess;
                mostDay = day;
            }
        }
        return what == 0 ? marches : mostDay;
    }

    public int latitude(int x, int y) {
        return isPlace(x, y) ? latitudeOf(x, y) : BAD;
    }

    public int quarrel(int log) {
        return isLog(log) ? quarrelBy(log, LAST_YEAR) : NONE;
    }

    public int home(int log) {
        if (!isLog(log)) {
            return NONE;
        }
        way.walk(logs[log], LAST_YEAR, DAYS - 1);
        int found = 0;
        for (int i = 0; i < rowCount; i++) {
            Row row = rows[i];
            if (row.log == log && row.kind == COMPASS && row.first == way.bearing(row.day)
                && ground.turn[way.cellBehind(row.day)] != 0) {
                found++;
            }
        }
        return found;
    }

    public int needs(int log, int what) {
        if (!isLog(log) || !within(what, 0, 1) || !logs[log].hasClaim()) {
            return NO;
        }
        way.walk(logs[log], LAST_YEAR, logs[log].claimDay);
        return what == 0 ? driftNeededX(logs[log]) : driftNeededY(logs[log]);
    }

    public int held(int log, int tape, int n) {
        if (!isLog(log) || !isTape(tape)) {
            return NONE;
        }
        if (!within(n, 1, 10)) {
            return BAD;
        }
        if (!logs[log].hasClaim()) {
            return STATE;
        }
        Tape t = tapes[tape];
        if (t.sort == EMPTY) {
            return NOTHING;
        }
        if (t.sort != BYTES) {
            return CAST;
        }
        if (t.size < 2 * n) {
            return NO_PLACE;
        }
        way.walk(logs[log], LAST_YEAR, logs[log].claimDay);
        int dx = driftNeededX(logs[log]);
        int dy = driftNeededY(logs[log]);
        for (int k = 0; k < n; k++) {
            if (Math.abs(t.items[2 * k] - dx) <= 1 && Math.abs(t.items[2 * k + 1] - dy) <= 1) {
                return k;
            }
        }
        return NOT_ANY;
    }

    // ---- stories, home

    public int falses(int log, int story, int n, int year) {
        if (!isLog(log) || !within(story, 0, STORIES - 1) || !isYear(year)) {
            return NONE;
        }
        if (!isNearness(n)) {
            return BAD;
        }
        if (story != NEVER && !logs[log].hasClaim()) {
            return STATE;
        }
        way.walk(logs[log], year, DAYS - 1);
        return falseRows(log, story, n);
    }

    public int least(int log, int n, int year) {
        if (!isLog(log) || !isYear(year)) {
            return NONE;
        }
        if (!isNearness(n)) {
            return BAD;
        }
        if (!logs[log].hasClaim()) {
            return STATE;
        }
        way.walk(logs[log], year, DAYS - 1);
        int best = THERE;
        int fewest = falseRows(log, THERE, n);
        for (int story = NEAR; story < STORIES; story++) {
            int found = falseRows(log, story, n);
            if (found < fewest) {
                fewest = found;
                best = story;
            }
        }
        return best;
    }

    public int misprint(int day, int v) {
        if (!isDay(day)) {
            return NONE;
        }
        if (!within(v, -1, 1500)) {
            return BAD;
        }
        int before = almanac.misprints[day];
        almanac.misprints[day] = v;
        return before;
    }

    public int made(int log, int what) {
        if (!isLog(log) || !within(what, 0, 1)) {
            return NONE;
        }
        if (!logs[log].hasClaim()) {
            return STATE;
        }
        return what == 0 ? showingMisprint(log) : madeAtHome(log, LAST_YEAR);
    }

    // ---- committees

    public int feed(int bytes, int n) {
        if (!within(n, 0, 4)) {
            return BAD;
        }
        if (textLength + n > TEXT_BYTES) {
            return FULL;
        }
        for (int k = n - 1; k >= 0; k--) {
            text[textLength] = (bytes >> (8 * k)) & 255;
            textLength++;
        }
        return textLength;
    }

    public int law(int committee, int year) {
        if (!within(committee, 0, COMMITTEES - 1)) {
            return NONE;
        }
        if (!isYear(year)) {
            return BAD;
        }
        if (lawCount >= LAWS) {
            return FULL;
        }
        int length = textLength;
        textLength = 0;
        int fault = reader.faultOf(text, length);
        if (fault >= 0) {
            return FAULT_BASE - fault;
        }
        laws[lawCount] = new Law(committee, year, Arrays.copyOf(text, length));
        lawCount++;
        return lawCount - 1;
    }

    public int says(int committee, int log, int year) {
        if (!within(committee, 0, COMMITTEES - 1) || !isLog(log) || !isYear(year)) {
            return NONE;
        }
        Law ruling = lawIn(committee, year);
        if (ruling == null || !logs[log].hasClaim()) {
            return NOT_ANY;
        }
        way.walk(logs[log], year, DAYS - 1);
        tally(log, year, reader.values);
        return reader.holds(ruling.text) ? 1 : 0;
    }

    // ---- looks

    public int look(int answers) {
        if (!within(answers, 0, 4095)) {
            return BAD;
        }
        return looks.size >= LOOKS ? FULL : looks.add(answers);
    }

    public int worth(int look, int set) {
        if (!within(look, 0, looks.size - 1)) {
            return NONE;
        }
        return isSet(set) ? looks.greatestPart(look, set) : BAD;
    }

    public int next(int set) {
        if (!isSet(set)) {
            return BAD;
        }
        return looks.size == 0 ? STATE : looks.best(set);
    }

    public int worst(int set, int n) {
        if (!isSet(set) || !within(n, 0, LOOK_DEPTH)) {
            return BAD;
        }
        return looks.left[n * SETS + set];
    }

    // ---- acts, tapes

    public int act(int row, int act, int x) {
        acts.ran = 0;
        if (!isRow(row) || !within(act, 0, ACTS - 1)) {
            return 0;
        }
        return acts.perform(rows[row], act, x);
    }

    public int trace(int i) {
        return within(i, 0, Math.min(acts.ran, TRACED) - 1) ? acts.kept[i] : NONE;
    }

    public int taken(int row, int k) {
        if (!within(k, 0, KINDS - 1)) {
            return BAD;
        }
        if (!isRow(row)) {
            return NOTHING;
        }
        int kind = rows[row].kind;
        return isUnder(kind, k) ? kind : CAST;
    }

    public int count(int what) {
        switch (what) {
            case 0: return now;
            case 1: return menCount;
            case 2: return rowCount;
            case 3: return lawCount;
            case 4: return textLength;
            case 5: return looks.size;
            case 6: return almanac.misprintCount();
            case 7: return acts.ran;
            default: return BAD;
        }
    }

    public int tape(int tape, int sort, int n) {
        if (!isTape(tape)) {
            return NONE;
        }
        if (sort == EMPTY) {
            tapes[tape].become(EMPTY, 0);
            return 1;
        }
        if (!within(sort, BYTES, BOOLEANS) || n > TAPE_ITEMS) {
            return BAD;
        }
        if (n < 0) {
            return SIZE;
        }
        tapes[tape].become(sort, n);
        return 1;
    }

    public int item(int tape, int i, int v) {
        if (!isTape(tape)) {
            return NONE;
        }
        Tape t = tapes[tape];
        if (t.sort == EMPTY) {
            return NOTHING;
        }
        if (!t.has(i)) {
            return NO_PLACE;
        }
        if (t.sort == FLOATS && !within(v, -MOST_EIGHTHS, MOST_EIGHTHS)) {
            return BAD;
        }
        t.items[i] = t.asItem(v);
        return 1;
    }

    public int read(int tape, int i) {
        if (!isTape(tape) || !tapes[tape].has(i)) {
            return NO;
        }
        return tapes[tape].items[i];
    }

    public int shift(int tape, int i, int other, int j, int n) {
        if (!isTape(tape) || !isTape(other)) {
            return NONE;
        }
        Tape from = tapes[tape];
        Tape to = tapes[other];
        if (from.sort == EMPTY || to.sort == EMPTY) {
            return NOTHING;
        }
        if (from.sort != to.sort) {
            return CAST;
        }
        if (!from.spans(i, n) || !to.spans(j, n)) {
            return NO_PLACE;
        }
        System.arraycopy(from.items, i, to.items, j, n);
        return n;
    }

    // ---- what a number may be

    private static boolean within(int v, int least, int most) {
        return v >= least && v <= most;
    }

    private static boolean isLog(int log) {
        return within(log, 0, LOGS - 1);
    }

    private static boolean isDay(int day) {
        return within(day, 0, DAYS - 1);
    }

    private static boolean isYear(int year) {
        return within(year, 0, LAST_YEAR);
    }

    private static boolean isPlace(int x, int y) {
        return within(x, LOW, HIGH) && within(y, LOW, HIGH);
    }

    private static boolean isHeight(int minutes) {
        return within(minutes, 0, 5400);
    }

    private static boolean isNearness(int n) {
        return within(n, 0, 99);
    }

    private static boolean isSet(int set) {
        return within(set, 1, SETS - 1);
    }

    private static boolean isTape(int tape) {
        return within(tape, 0, TAPES - 1);
    }

    private boolean isRow(int row) {
        return within(row, 0, rowCount - 1);
    }

    /** Whether a KIND is k or stands under it. */
    private static boolean isUnder(int kind, int k) {
        for (int at = kind, steps = 0; at >= 0 && steps < KINDS; at = ABOVE[at], steps++) {
            if (at == k) {
                return true;
            }
        }
        return false;
    }

    // ---- places

    private static int clamped(int coordinate) {
        return Math.max(LOW, Math.min(HIGH, coordinate));
    }

    private static int cellOf(int x, int y) {
        return 8 * ((y - LOW) / 100) + (x - LOW) / 100;
    }

    private static int latitudeOf(int x, int y) {
        int across = Math.abs(x);
        int along = Math.abs(y);
        return POLE_LATITUDE - Math.max(across, along) - Math.min(across, along) / 2;
    }

    // ---- rows as they come

    /** Behind a test that there is room. */
    private Row addRow(int log, int day, int kind) {
        Row row = new Row(rowCount, log, day, kind, now);
        rows[rowCount] = row;
        rowCount++;
        return row;
    }

    private int addHeight(int log, int day, int kind, int minutes, int error) {
        Row row = addRow(log, day, kind);
        row.first = minutes;
        row.second = error;
        return row.number;
    }

    private int sumOf(int[] numbers, int men) {
        int sum = 0;
        for (int i = 0; i < menCount; i++) {
            if ((men >> i & 1) != 0) {
                sum += numbers[i];
            }
        }
        return sum;
    }

    // ---- what rows let; the way of the row's log has been walked up to its day

    private boolean agrees(Row row, int x, int y) {
        switch (row.kind) {
            case MARCH: return way.excess(row.day) <= 0;
            case COMPASS: return row.first == ((way.bearing(row.day) + ground.turn[cellOf(x, y)]) & 15);
            case PICTURE: return pictureAgrees(row, latitudeOf(x, y));
            case WORD: return Math.abs(x - row.second) <= row.fourth && Math.abs(y - row.third) <= row.fourth;
            default: return heightAgrees(row, latitudeOf(x, y));
        }
    }

    private boolean heightAgrees(Row row, int latitude) {
        int middle = POLE_LATITUDE - row.first + almanac.suns[row.day];
        return Math.abs(latitude - middle) <= row.second;
    }

    private boolean pictureAgrees(Row row, int latitude) {
        if (row.second <= 0) {
            return false;
        }
        int shown = 100 * row.first / row.second;
        int due = (almanac.suns[row.day] + POLE_LATITUDE - latitude) / 54;
        return Math.abs(due - shown) <= row.third;
    }

    private int driftNeededX(Log log) {
        return Math.floorDiv(log.claimX - way.xBehind(log.claimDay), log.claimDay + 1);
    }

    private int driftNeededY(Log log) {
        return Math.floorDiv(log.claimY - way.yBehind(log.claimDay), log.claimDay + 1);
    }

    private int quarrelBy(int log, int year) {
        for (int i = 0; i < rowCount; i++) {
            if (!rows[i].isHeightOf(log, year)) {
                continue;
            }
            for (int j = i + 1; j < rowCount; j++) {
                if (rows[j].isHeightOf(log, year) && rows[i].quarrelsWith(rows[j])) {
                    return 1000 * i + j;
                }
            }
        }
        return NOT_ANY;
    }

    // ---- stories; the whole way has been walked by the year that is asked for

    private int storyX(int story, Log log, int day) {
        if (story == NEVER) {
            return log.startX;
        }
        return story == THERE && day == log.claimDay ? log.claimX : way.xBehind(day);
    }

    private int storyY(int story, Log log, int day, int n) {
        if (story == NEVER) {
            return log.startY;
        }
        if (story == THERE && day == log.claimDay) {
            return log.claimY;
        }
        int y = way.yBehind(day);
        return story == NEAR && day >= log.claimDay ? clamped(y - n) : y;
    }

    private boolean agreesInStory(Row row, int story, int n) {
        Log log = logs[row.log];
        return agrees(row, storyX(story, log, row.day), storyY(story, log, row.day, n));
    }

    private int falseRows(int log, int story, int n) {
        int found = 0;
        for (int i = 0; i < rowCount; i++) {
            if (rows[i].isOf(log, way.year) && !agreesInStory(rows[i], story, n)) {
                found++;
            }
        }
        return found;
    }

    // ---- heights that could have been made at home

    private int showingMisprint(int log) {
        int latitude = logs[log].claimLatitude();
        int found = 0;
        for (int i = 0; i < rowCount; i++) {
            if (rows[i].isHeightOf(log, LAST_YEAR) && almanac.showsMisprint(rows[i], latitude)) {
                found++;
            }
        }
        return found;
    }

    private int madeAtHome(int log, int year) {
        int latitude = logs[log].claimLatitude();
        int found = 0;
        for (int i = 0; i < rowCount; i++) {
            if (rows[i].isHeightOf(log, year)
                && (almanac.showsMisprint(rows[i], latitude) || almanac.showsSun(rows[i], latitude))) {
                found++;
            }
        }
        return found;
    }

    // ---- laws

    /** THE LAW of a COMMITTEE in a YEAR, or null. */
    private Law lawIn(int committee, int year) {
        Law best = null;
        for (int i = 0; i < lawCount; i++) {
            Law law = laws[i];
            if (law.committee == committee && law.year <= year && (best == null || law.year >= best.year)) {
                best = law;
            }
        }
        return best;
    }

    /** What each letter of a law stands for. */
    private void tally(int log, int year, int[] values) {
        Arrays.fill(values, 0);
        for (int i = 0; i < rowCount; i++) {
            Row row = rows[i];
            if (row.isOf(log, year)) {
                boolean agreed = agreesInStory(row, THERE, 0);
                int letter = letterOf(row.kind);
                // MARCHES are counted where they are BEYOND, all others where they FIT.
                if (agreed != (row.kind == MARCH)) {
                    values[letter]++;
                }
                if (!agreed) {
                    values[IS_F]++;
                }
            }
        }
        values[IS_K] = madeAtHome(log, year);
        values[IS_S] = logs[log].skill;
        values[IS_Q] = quarrelBy(log, year) >= 0 ? 1 : 0;
    }

    private static int letterOf(int kind) {
        switch (kind) {
            case MARCH: return IS_M;
            case COMPASS: return IS_C;
            case PICTURE: return IS_P;
            case WORD: return IS_W;
            default: return IS_H;
        }
    }

    // ---- classes inside

    /** DRIFT, RIDGE and TURN of the CELLS. */
    private static final class Ice {
        final int[] driftX = new int[CELLS];
        final int[] driftY = new int[CELLS];
        final int[] ridge = new int[CELLS];
        final int[] turn = new int[CELLS];
    }

    /** THE TABLE: SUNS and MISPRINTS (-1: none) of the DAYS. */
    private static final class Almanac {
        final int[] suns = new int[DAYS];
        final int[] misprints = new int[DAYS];

        Almanac() {
            Arrays.fill(misprints, -1);
        }

        int misprintCount() {
            int found = 0;
            for (int day = 0; day < DAYS; day++) {
                if (misprints[day] >= 0) {
                    found++;
                }
            }
            return found;
        }

        boolean showsSun(Row height, int latitude) {
            return height.first == POLE_LATITUDE - latitude + suns[height.day];
        }

        boolean showsMisprint(Row height, int latitude) {
            int printed = misprints[height.day];
            return printed >= 0 && height.first == POLE_LATITUDE - latitude + printed;
        }
    }

    /** A LOG: its PARTY (only what its MEN are together matters), START, CLAIM and MARCHES. */
    private static final class Log {
        int strength, skill, dogs, load;
        int startX = 0, startY = -300;
        int claimX, claimY, claimDay = -1;
        final Row[] marches = new Row[DAYS];

        boolean hasClaim() {
            return claimDay >= 0;
        }

        int claimLatitude() {
            return latitudeOf(claimX, claimY);
        }

        int milesOver(int ridge) {
            return Math.max(0, 3 * strength + 2 * dogs - load / 100 - 4 * ridge);
        }
    }

    /** A ROW of a LOG; a number that its KIND does not have is NO. */
    private static final class Row {
        final int number, log, day, kind, year;
        int first = NO, second = NO, third = NO, fourth = NO;

        Row(int number, int log, int day, int kind, int year) {
            this.number = number;
            this.log = log;
            this.day = day;
            this.kind = kind;
            this.year = year;
        }

        boolean isOf(int askedLog, int upToYear) {
            return log == askedLog && year <= upToYear;
        }

        boolean isHeightOf(int askedLog, int upToYear) {
            return (kind == HEIGHT || kind == MADE) && isOf(askedLog, upToYear);
        }

        /** SUN is the same for both, so it does not matter here. */
        boolean quarrelsWith(Row height) {
            return day == height.day && Math.abs(first - height.first) > second + height.second;
        }

        int miles() {
            return first * second / 10;
        }
    }

    /** THE WAY of the LOG and YEAR for which it was walked last, kept so that no call makes rows anew. */
    private static final class Way {
        private final Ice ground;
        private Log log;
        int year;
        /** At 0 START, at d + 1 PLACE of DAY d. */
        private final int[] xs = new int[DAYS + 1];
        private final int[] ys = new int[DAYS + 1];

        Way(Ice ground, Log log) {
            this.ground = ground;
            this.log = log;
        }

        void walk(Log walked, int upToYear, int lastDay) {
            log = walked;
            year = upToYear;
            int x = log.startX;
            int y = log.startY;
            xs[0] = x;
            ys[0] = y;
            for (int day = 0; day <= lastDay && day < DAYS; day++) {
                Row row = marchOf(day);
                if (row != null) {
                    x = clamped(x + row.miles() * EAST[row.third & 15] / 1000);
                    y = clamped(y + row.miles() * EAST[(row.third + 4) & 15] / 1000);
                }
                int cell = cellOf(x, y);
                x = clamped(x + ground.driftX[cell]);
                y = clamped(y + ground.driftY[cell]);
                xs[day + 1] = x;
                ys[day + 1] = y;
            }
        }

        /** The MARCH of a DAY as far as it was told by the YEAR, or null. */
        private Row marchOf(int day) {
            Row row = log.marches[day];
            return row != null && row.year <= year ? row : null;
        }

        int xBehind(int day) {
            return xs[day + 1];
        }

        int yBehind(int day) {
            return ys[day + 1];
        }

        int cellBehind(int day) {
            return cellOf(xs[day + 1], ys[day + 1]);
        }

        int bearing(int day) {
            Row row = marchOf(day);
            return row == null ? 0 : row.third;
        }

        /** CAN of a DAY: the RIDGE is that of the PLACE from which the MARCH goes out. */
        int reach(int day) {
            return log.milesOver(ground.ridge[cellBehind(day - 1)]);
        }

        /** By how many MILES the MARCH of a DAY is above CAN; 0 or less: it is not BEYOND, or there is none. */
        int excess(int day) {
            Row row = marchOf(day);
            return row == null ? 0 : row.miles() - reach(day);
        }
    }

    /** A LAW: its text has been read without a FAULT. */
    private static final class Law {
        final int committee, year;
        final int[] text;

        Law(int committee, int year, int[] text) {
            this.committee = committee;
            this.year = year;
            this.text = text;
        }
    }

    /** Reads a text from the left on; with a FAULT it stays at the byte that is none. */
    private static final class Reader {
        final int[] values = new int[LETTERS.length];
        private int[] text = new int[0];
        private int length, at;
        private boolean faulty;

        /** The FAULT, or -1. */
        int faultOf(int[] bytes, int count) {
            readAll(bytes, count);
            return faulty ? at : -1;
        }

        boolean holds(int[] bytes) {
            return readAll(bytes, bytes.length) && !faulty;
        }

        private boolean readAll(int[] bytes, int count) {
            text = bytes;
            length = Math.min(count, bytes.length);
            at = 0;
            faulty = false;
            boolean held = either(0);
            if (at < length) {
                faulty = true;
            }
            return held;
        }

        /** The byte that comes; -1: none does, or there was a FAULT. */
        private int coming() {
            return faulty || at >= length ? -1 : text[at];
        }

        private boolean either(int depth) {
            boolean held = both(depth);
            for (int i = 0; i < TEXT_BYTES && coming() == '|'; i++) {
                at++;
                held = both(depth) || held;
            }
            return held;
        }

        private boolean both(int depth) {
            boolean held = one(depth);
            for (int i = 0; i < TEXT_BYTES && coming() == '&'; i++) {
                at++;
                held = one(depth) && held;
            }
            return held;
        }

        private boolean one(int depth) {
            int sign = coming();
            if (sign != '!' && sign != '(') {
                return test();
            }
            if (depth >= NESTING) {
                faulty = true;
                return false;
            }
            at++;
            if (sign == '!') {
                return !one(depth + 1);
            }
            boolean held = either(depth + 1);
            if (coming() == ')') {
                at++;
            } else {
                faulty = true;
            }
            return held;
        }

        private boolean test() {
            int letter = letterAt(coming());
            if (letter < 0) {
                faulty = true;
                return false;
            }
            at++;
            int sign = coming();
            if (sign != '<' && sign != '=' && sign != '>') {
                faulty = true;
                return false;
            }
            at++;
            int order = Integer.compare(values[letter], number());
            return sign == '<' ? order < 0 : sign == '>' ? order > 0 : order == 0;
        }

        private int number() {
            int digits = 0;
            int number = 0;
            while (digits < DIGITS && coming() >= '0' && coming() <= '9') {
                number = 10 * number + coming() - '0';
                digits++;
                at++;
            }
            if (digits == 0) {
                faulty = true;
            }
            return number;
        }

        private static int letterAt(int sign) {
            for (int i = 0; i < LETTERS.length; i++) {
                if (LETTERS[i] == sign) {
                    return i;
                }
            }
            return -1;
        }
    }

    /** LOOKS, and what may be left of each set of TELLINGS behind so many of them. */
    private static final class Looks {
        /** At ANSWERS * look + answer: the TELLINGS that answer so there. */
        private final int[] parts = new int[LOOKS * ANSWERS];
        /** At SETS * n + set: WORST; made with each LOOK, so that asking costs nothing. */
        final int[] left = new int[(LOOK_DEPTH + 1) * SETS];
        int size;

        Looks() {
            for (int i = 0; i < left.length; i++) {
                left[i] = Integer.bitCount(i % SETS);
            }
        }

        /** Behind a test that there is room. */
        int add(int answers) {
            int look = size;
            size++;
            for (int telling = 0; telling < 6; telling++) {
                parts[ANSWERS * look + (answers >> (2 * telling) & 3)] |= 1 << telling;
            }
            for (int i = SETS; i < left.length; i++) {
                left[i] = leftBehind(i % SETS, i / SETS);
            }
            return look;
        }

        private int leftBehind(int set, int n) {
            int fewest = 6;
            for (int look = 0; look < size; look++) {
                int most = 0;
                for (int answer = 0; answer < ANSWERS; answer++) {
                    most = Math.max(most, left[SETS * (n - 1) + (set & parts[ANSWERS * look + answer])]);
                }
                fewest = Math.min(fewest, most);
            }
            return fewest;
        }

        int greatestPart(int look, int set) {
            int most = 0;
            for (int answer = 0; answer < ANSWERS; answer++) {
                most = Math.max(most, Integer.bitCount(set & parts[ANSWERS * look + answer]));
            }
            return most;
        }

        /** Behind a test that there is a LOOK. */
        int best(int set) {
            int best = 0;
            int least = greatestPart(0, set);
            for (int look = 1; look < size; look++) {
                int found = greatestPart(look, set);
                if (found < least) {
                    least = found;
                    best = look;
                }
            }
            return best;
        }
    }

    /** ACTS of a ROW by the bodies of its KIND, and THE TRACE of the latest. */
    private static final class Acts {
        final int[] kept = new int[TRACED];
        int ran;

        int perform(Row row, int act, int x) {
            ran = 0;
            return from(row.kind, act, row, x, 0);
        }

        /** The act as seen from a KIND on: its own body, or that of the next KIND above that has one. */
        private int from(int kind, int act, Row row, int x, int depth) {
            for (int k = kind, steps = 0; k >= 0 && steps < KINDS; k = ABOVE[k], steps++) {
                int body = BODIES[ACTS * k + act];
                if (body != 0) {
                    return run(body, ABOVE[k], row, x, depth);
                }
            }
            return 0;
        }

        private int run(int body, int above, Row row, int x, int depth) {
            if (depth > BODY_DEPTH) {
                return 0;
            }
            if (ran < TRACED) {
                kept[ran] = body;
            }
            ran++;
            int deeper = depth + 1;
            switch (body) {
                case 10: return x + row.first;
                case 11: return from(row.kind, FITS, row, x, deeper) - row.day;
                case 12: return from(row.kind, HANGS, row, x, deeper) ^ row.number;
                case 20: return from(above, HANGS, row, x * 2, deeper);
                case 30: return from(above, FITS, row, x, deeper) - 90;
                case 31: return from(above, SHOWS, row, x, deeper) + from(row.kind, HANGS, row, 1, deeper);
                case 40: return from(above, FITS, row, x & 15, deeper);
                case 50: return -from(above, SHOWS, row, x, deeper);
                case 60: return from(above, HANGS, row, x, deeper) * 3;
                case 70: return from(above, FITS, row, x, deeper) + from(above, FITS, row, x + 1, deeper);
                case 71: return from(above, SHOWS, row, x - 1, deeper);
                default: return 0;
            }
        }
    }

    /** A TAPE: nothing, or a row of items of one sort (floats as their eighths). */
    private static final class Tape {
        int sort = EMPTY, size;
        final int[] items = new int[TAPE_ITEMS];

        void become(int newSort, int newSize) {
            sort = newSort;
            size = newSize;
            Arrays.fill(items, 0);
        }

        boolean has(int i) {
            return i >= 0 && i < size;
        }

        boolean spans(int i, int n) {
            return n >= 0 && n <= size && i >= 0 && i <= size - n;
        }

        /** What is left of v in an item of this sort. */
        int asItem(int v) {
            switch (sort) {
                case BYTES: return (byte) v;
                case SHORTS: return (short) v;
                case BOOLEANS: return v != 0 ? 1 : 0;
                default: return v;
            }
        }
    }
}
