import java.util.ArrayList;
import java.util.List;
import java.util.TreeMap;

/** The document written a second time, naively and by other means than the class, to compare answers with. */
public final class Model {
    static final int NONE = -1, BAD = -2, STATE = -3, FULL = -4, NO = -1000000000;
    static final int[] DX = {0, 383, 707, 924, 1000, 924, 707, 383, 0, -383, -707, -924, -1000, -924, -707, -383};

    /** KINDS as Java's own classes, so that overriding and super do what the document tells. */
    static class Row {
        int i, log, day, year, kind;
        int[] numbers;
        List<Integer> ran;

        int fits(int x) {
            ran.add(10);
            return x + numbers[0];
        }

        int hangs(int x) {
            ran.add(11);
            return fits(x) - day;
        }

        int shows(int x) {
            ran.add(12);
            return hangs(x) ^ i;
        }
    }

    static class March extends Row {
        @Override
        int hangs(int x) {
            ran.add(20);
            return super.hangs(x * 2);
        }
    }

    static class Height extends Row {
        @Override
        int fits(int x) {
            ran.add(30);
            return super.fits(x) - 90;
        }

        @Override
        int shows(int x) {
            ran.add(31);
            return super.shows(x) + hangs(1);
        }
    }

    static class Compass extends Row {
        @Override
        int fits(int x) {
            ran.add(40);
            return super.fits(x & 15);
        }
    }

    static class Picture extends Row {
        @Override
        int shows(int x) {
            ran.add(50);
            return -super.shows(x);
        }
    }

    static class Word extends Row {
        @Override
        int hangs(int x) {
            ran.add(60);
            return super.hangs(x) * 3;
        }
    }

    static class Made extends Height {
        @Override
        int fits(int x) {
            ran.add(70);
            return super.fits(x) + super.fits(x + 1);
        }

        @Override
        int shows(int x) {
            ran.add(71);
            return super.shows(x - 1);
        }
    }

    int now;
    final int[][] drift = new int[64][2];
    final int[] ridge = new int[64], turn = new int[64], sun = new int[200];
    final TreeMap<Integer, Integer> misprints = new TreeMap<>();
    final List<int[]> men = new ArrayList<>();
    final int[][] party = new int[2][3], start = {{0, -300}, {0, -300}}, claim = new int[2][];
    final List<Row> rows = new ArrayList<>();
    String text = "";
    final List<Object[]> laws = new ArrayList<>();
    final List<Integer> looks = new ArrayList<>();
    List<Integer> ran = new ArrayList<>();
    final Object[] tapes = new Object[6];

    static boolean in(long v, long a, long b) {
        return a <= v && v <= b;
    }

    static boolean placeOk(int x, int y) {
        return in(x, -400, 399) && in(y, -400, 399);
    }

    static int cell(int[] p) {
        return 8 * ((p[1] + 400) / 100) + (p[0] + 400) / 100;
    }

    static int cut(int c) {
        return c < -400 ? -400 : c > 399 ? 399 : c;
    }

    static int lat(int[] p) {
        int a = Math.abs(p[0]), b = Math.abs(p[1]);
        return a > b ? 5400 - a - b / 2 : 5400 - b - a / 2;
    }

    public int pass(int n) {
        if (!in(n, 1, 20) || now + n > 99) return BAD;
        return now += n;
    }

    public int drift(int cell, int dx, int dy) {
        if (!in(cell, 0, 63)) return NONE;
        if (!in(dx, -30, 30) || !in(dy, -30, 30)) return BAD;
        drift[cell] = new int[] {dx, dy};
        return 1;
    }

    public int ice(int cell, int what, int v) {
        if (!in(cell, 0, 63) || !in(what, 0, 1)) return NONE;
        if (what == 0 ? !in(v, 0, 9) : !in(v, -7, 8)) return BAD;
        (what == 0 ? ridge : turn)[cell] = v;
        return 1;
    }

    public int sun(int day, int minutes) {
        if (!in(day, 0, 199)) return NONE;
        if (!in(minutes, 0, 1500)) return BAD;
        int was = sun[day];
        sun[day] = minutes;
        return was;
    }

    public int man(int strength, int skill) {
        if (!in(strength, 1, 20) || !in(skill, 0, 9)) return BAD;
        if (men.size() == 12) return FULL;
        men.add(new int[] {strength, skill});
        return men.size() - 1;
    }

    public int party(int log, int m, int dogs, int load) {
        if (!in(log, 0, 1)) return NONE;
        if (m < 0 || m >> men.size() != 0 || !in(dogs, 0, 99) || !in(load, 0, 9999)) return BAD;
        party[log] = new int[] {m, dogs, load};
        return 1;
    }

    public int start(int log, int x, int y) {
        if (!in(log, 0, 1)) return NONE;
        if (!placeOk(x, y)) return BAD;
        start[log] = new int[] {x, y};
        return 1;
    }

    public int claim(int log, int x, int y, int day) {
        if (!in(log, 0, 1)) return NONE;
        if (day == -1) {
            claim[log] = null;
            return 1;
        }
        if (!in(day, 0, 199) || !placeOk(x, y)) return BAD;
        claim[log] = new int[] {x, y, day};
        return 1;
    }

    int add(Row r, int kind, int log, int day, int... numbers) {
        if (rows.size() == 120) return FULL;
        r.i = rows.size();
        r.kind = kind;
        r.log = log;
        r.day = day;
        r.year = now;
        r.numbers = numbers;
        rows.add(r);
        return r.i;
    }

    public int march(int log, int day, int hours, int pace, int bearing) {
        if (!in(log, 0, 1) || !in(day, 0, 199)) return NONE;
        if (!in(hours, 0, 24) || !in(pace, 0, 60) || !in(bearing, 0, 15)) return BAD;
        if (marchOf(log, day, 99) != null) return STATE;
        return add(new March(), 1, log, day, hours, pace, bearing);
    }

    public int height(int log, int day, int minutes, int error, boolean made) {
        if (!in(log, 0, 1) || !in(day, 0, 199)) return NONE;
        if (!in(minutes, 0, 5400) || !in(error, 0, 60)) return BAD;
        return made ? add(new Made(), 6, log, day, minutes, error) : add(new Height(), 2, log, day, minutes, error);
    }

    public int compass(int log, int day, int points) {
        if (!in(log, 0, 1) || !in(day, 0, 199)) return NONE;
        if (!in(points, 0, 15)) return BAD;
        return add(new Compass(), 3, log, day, points);
    }

    public int picture(int log, int day, int staff, int shadow, int tilt) {
        if (!in(log, 0, 1) || !in(day, 0, 199)) return NONE;
        if (!in(staff, 1, 999) || !in(shadow, 1, 999) || !in(tilt, 0, 9)) return BAD;
        return add(new Picture(), 4, log, day, staff, shadow, tilt);
    }

    public int word(int log, int day, int man, int x, int y, int miles) {
        if (!in(log, 0, 1) || !in(day, 0, 199) || !in(man, 0, men.size() - 1)) return NONE;
        if (!placeOk(x, y) || !in(miles, 0, 200)) return BAD;
        return add(new Word(), 5, log, day, man, x, y, miles);
    }

    public int torn(int log, int day, int tape, int i, int n, int error) {
        if (!in(log, 0, 1) || !in(day, 0, 199) || !in(tape, 0, 5)) return NONE;
        if (!in(n, 1, 40) || !in(error, 0, 60)) return BAD;
        if (tapes[tape] == null) return 0;
        if (!(tapes[tape] instanceof short[] t)) return -12;
        int came = 0;
        for (long at = i; at < (long) i + n; at++, day++) {
            if (at < 0 || at >= t.length || day > 199) return came;
            int v = t[(int) at];
            if (v == -1) continue;
            if (height(log, day, v, error, false) < 0) return came;
            came++;
        }
        return came;
    }

    public int of(int row, int what) {
        if (!in(row, 0, rows.size() - 1)) return NO;
        Row r = rows.get(row);
        int[] all = {r.kind, r.log, r.day, r.year};
        if (in(what, 0, 3)) return all[what];
        return in(what, 4, 3 + r.numbers.length) ? r.numbers[what - 4] : NO;
    }

    Row marchOf(int log, int day, int year) {
        for (Row r : rows) {
            if (r.kind == 1 && r.log == log && r.day == day && r.year <= year) return r;
        }
        return null;
    }

    int[] at(int log, int day, int year) {
        int[] p = start[log].clone();
        for (int d = 0; d <= day; d++) {
            Row m = marchOf(log, d, year);
            if (m != null) {
                int miles = m.numbers[0] * m.numbers[1] / 10;
                p[0] = cut(p[0] + (int) (miles * (long) DX[m.numbers[2]] / 1000));
                p[1] = cut(p[1] + (int) (miles * (long) DX[(m.numbers[2] + 4) % 16] / 1000));
            }
            int[] by = drift[cell(p)];
            p[0] = cut(p[0] + by[0]);
            p[1] = cut(p[1] + by[1]);
        }
        return p;
    }

    int together(int log, int what) {
        int sum = 0;
        for (int i = 0; i < men.size(); i++) {
            if ((party[log][0] & 1 << i) != 0) sum += men.get(i)[what];
        }
        return sum;
    }

    int can(int log, int day, int year) {
        int c = 3 * together(log, 0) + 2 * party[log][1] - party[log][2] / 100
            - 4 * ridge[cell(at(log, day - 1, year))];
        return c < 0 ? 0 : c;
    }

    int above(Row m, int year) {
        return m.numbers[0] * m.numbers[1] / 10 - can(m.log, m.day, year);
    }

    boolean fits(Row r, int[] p, int year) {
        int[] n = r.numbers;
        switch (r.kind) {
            case 1: return above(r, year) <= 0;
            case 2: case 6: return in(lat(p), 5400 - n[0] + sun[r.day] - n[1], 5400 - n[0] + sun[r.day] + n[1]);
            case 3: {
                Row m = marchOf(r.log, r.day, year);
                return n[0] == ((m == null ? 0 : m.numbers[2]) + turn[cell(p)] + 16) % 16;
            }
            case 4: return in((sun[r.day] + 5400 - lat(p)) / 54, 100 * n[0] / n[1] - n[2], 100 * n[0] / n[1] + n[2]);
            default: return Math.max(Math.abs(p[0] - n[1]), Math.abs(p[1] - n[2])) <= n[3];
        }
    }

    public int fits(int row, int x, int y) {
        if (!in(row, 0, rows.size() - 1)) return NONE;
        if (!placeOk(x, y)) return BAD;
        return fits(rows.get(row), new int[] {x, y}, 99) ? 1 : 0;
    }

    public int place(int log, int day, int year) {
        if (!in(log, 0, 1) || !in(day, -1, 199) || !in(year, 0, 99)) return NONE;
        int[] p = at(log, day, year);
        return 1000 * (p[0] + 400) + p[1] + 400;
    }

    public int can(int log, int day) {
        return in(log, 0, 1) && in(day, 0, 199) ? can(log, day, 99) : NONE;
    }

    public int beyond(int log, int what) {
        if (!in(log, 0, 1) || !in(what, 0, 1)) return NONE;
        int n = 0, best = 0, on = -5;
        for (Row r : rows) {
            if (r.log == log && r.kind == 1 && above(r, 99) > 0) {
                n++;
                int a = above(r, 99);
                if (a > best || a == best && r.day < on) {
                    best = a;
                    on = r.day;
                }
            }
        }
        return what == 0 ? n : on;
    }

    public int latitude(int x, int y) {
        return placeOk(x, y) ? lat(new int[] {x, y}) : BAD;
    }

    int quarrel(int log, int year) {
        for (Row a : rows) {
            for (Row b : rows) {
                if (a.i < b.i && a instanceof Height && b instanceof Height && a.log == log && b.log == log
                    && a.year <= year && b.year <= year && a.day == b.day) {
                    int low = Math.max(-a.numbers[0] - a.numbers[1], -b.numbers[0] - b.numbers[1]);
                    int high = Math.min(-a.numbers[0] + a.numbers[1], -b.numbers[0] + b.numbers[1]);
                    if (low > high) return 1000 * a.i + b.i;
                }
            }
        }
        return -5;
    }

    public int quarrel(int log) {
        return in(log, 0, 1) ? quarrel(log, 99) : NONE;
    }

    public int home(int log) {
        if (!in(log, 0, 1)) return NONE;
        int n = 0;
        for (Row r : rows) {
            if (r instanceof Compass && r.log == log) {
                Row m = marchOf(log, r.day, 99);
                int bearing = m == null ? 0 : m.numbers[2];
                if (r.numbers[0] == bearing && turn[cell(at(log, r.day, 99))] != 0) n++;
            }
        }
        return n;
    }

    public int needs(int log, int what) {
        if (!in(log, 0, 1) || !in(what, 0, 1) || claim[log] == null) return NO;
        int[] c = claim[log];
        double d = c[what] - at(log, c[2], 99)[what];
        return (int) Math.floor(d / (c[2] + 1));
    }

    public int held(int log, int tape, int n) {
        if (!in(log, 0, 1) || !in(tape, 0, 5)) return NONE;
        if (!in(n, 1, 10)) return BAD;
        if (claim[log] == null) return STATE;
        if (tapes[tape] == null) return -11;
        if (!(tapes[tape] instanceof byte[] t)) return -12;
        if (t.length < 2 * n) return -13;
        for (int k = 0; k < n; k++) {
            if (in(t[2 * k] - needs(log, 0), -1, 1) && in(t[2 * k + 1] - needs(log, 1), -1, 1)) return k;
        }
        return -5;
    }

    int[] storyPlace(int log, int story, int day, int n, int year) {
        if (story == 2) return start[log];
        int[] p = at(log, day, year);
        if (story == 0) return day == claim[log][2] ? claim[log] : p;
        if (day >= claim[log][2]) p[1] = cut(p[1] - n);
        return p;
    }

    int falseOnes(int log, int story, int n, int year) {
        int f = 0;
        for (Row r : rows) {
            if (r.log == log && r.year <= year && !fits(r, storyPlace(log, story, r.day, n, year), year)) f++;
        }
        return f;
    }

    public int falses(int log, int story, int n, int year) {
        if (!in(log, 0, 1) || !in(story, 0, 2) || !in(year, 0, 99)) return NONE;
        if (!in(n, 0, 99)) return BAD;
        if (story != 2 && claim[log] == null) return STATE;
        return falseOnes(log, story, n, year);
    }

    public int least(int log, int n, int year) {
        if (!in(log, 0, 1) || !in(year, 0, 99)) return NONE;
        if (!in(n, 0, 99)) return BAD;
        if (claim[log] == null) return STATE;
        int a = falseOnes(log, 0, n, year), b = falseOnes(log, 1, n, year), c = falseOnes(log, 2, n, year);
        return a <= b && a <= c ? 0 : b <= c ? 1 : 2;
    }

    public int misprint(int day, int v) {
        if (!in(day, 0, 199)) return NONE;
        if (!in(v, -1, 1500)) return BAD;
        Integer was = v == -1 ? misprints.remove(day) : misprints.put(day, v);
        return was == null ? -1 : was;
    }

    int made(int log, int what, int year) {
        int n = 0;
        for (Row r : rows) {
            if (r instanceof Height && r.log == log && r.year <= year) {
                int number = r.numbers[0] - 5400 + lat(claim[log]);
                boolean shows = misprints.containsKey(r.day) && misprints.get(r.day) == number;
                if (shows || what == 1 && sun[r.day] == number) n++;
            }
        }
        return n;
    }

    public int made(int log, int what) {
        if (!in(log, 0, 1) || !in(what, 0, 1)) return NONE;
        return claim[log] == null ? STATE : made(log, what, 99);
    }

    public int feed(int bytes, int n) {
        if (!in(n, 0, 4)) return BAD;
        if (text.length() + n > 80) return FULL;
        String four = "" + (char) (bytes >>> 24) + (char) (bytes >>> 16 & 255) + (char) (bytes >>> 8 & 255)
            + (char) (bytes & 255);
        text += four.substring(4 - n);
        return text.length();
    }

    /** Whether some text that holds begins so: a machine with a stack, byte by byte. */
    static boolean begins(String s) {
        return stateOf(s) != null;
    }

    /** What is open and where it stands: w(ants F), l(etter), o(perator), 1 2 3 digits, c(losed); null: nothing begins so. */
    static String stateOf(String s) {
        String open = "";
        char at = 'w';
        for (char c : s.toCharArray()) {
            boolean digit = c >= '0' && c <= '9';
            if (at == 'w' && (c == '(' || c == '!')) {
                open += c;
                if (open.length() > 4) return null;
            } else if (at == 'w' && "hcpwmfksq".indexOf(c) >= 0) {
                at = 'l';
            } else if (at == 'l' && "<=>".indexOf(c) >= 0) {
                at = 'o';
            } else if (digit && at == 'o') {
                at = '1';
            } else if (digit && (at == '1' || at == '2')) {
                at++;
            } else if ("123c".indexOf(at) >= 0 && "&|)".indexOf(c) >= 0) {
                while (open.endsWith("!")) open = open.substring(0, open.length() - 1);
                if (c == ')') {
                    if (open.isEmpty()) return null;
                    open = open.substring(0, open.length() - 1);
                    at = 'c';
                } else {
                    at = 'w';
                }
            } else {
                return null;
            }
        }
        return open + at;
    }

    static int fault(String s) {
        for (int i = 1; i <= s.length(); i++) {
            if (!begins(s.substring(0, i))) return i - 1;
        }
        String state = stateOf(s);
        boolean ended = "123c".indexOf(state.charAt(state.length() - 1)) >= 0 && state.indexOf('(') < 0;
        return ended ? -1 : s.length();
    }

    public int law(int committee, int year) {
        if (!in(committee, 0, 5)) return NONE;
        if (!in(year, 0, 99)) return BAD;
        if (laws.size() == 12) return FULL;
        String s = text;
        text = "";
        if (fault(s) >= 0) return -10 - fault(s);
        laws.add(new Object[] {committee, year, s});
        return laws.size() - 1;
    }

    static int outside(String s, char c) {
        int depth = 0;
        for (int i = 0; i < s.length(); i++) {
            if (s.charAt(i) == '(') depth++;
            if (s.charAt(i) == ')') depth--;
            if (s.charAt(i) == c && depth == 0) return i;
        }
        return -1;
    }

    boolean holds(String s, int log, int year) {
        int or = outside(s, '|');
        if (or >= 0) return holds(s.substring(0, or), log, year) || holds(s.substring(or + 1), log, year);
        int and = outside(s, '&');
        if (and >= 0) return holds(s.substring(0, and), log, year) && holds(s.substring(and + 1), log, year);
        if (s.startsWith("!")) return !holds(s.substring(1), log, year);
        if (s.startsWith("(")) return holds(s.substring(1, s.length() - 1), log, year);
        int n = Integer.parseInt(s.substring(2)), v = value(s.charAt(0), log, year);
        return s.charAt(1) == '<' ? v < n : s.charAt(1) == '>' ? v > n : v == n;
    }

    int fitting(Class<?> kind, int log, int year) {
        int n = 0;
        for (Row r : rows) {
            if (kind.isInstance(r) && r.log == log && r.year <= year
                && fits(r, storyPlace(log, 0, r.day, 0, year), year)) n++;
        }
        return n;
    }

    int value(char letter, int log, int year) {
        switch (letter) {
            case 'h': return fitting(Height.class, log, year);
            case 'c': return fitting(Compass.class, log, year);
            case 'p': return fitting(Picture.class, log, year);
            case 'w': return fitting(Word.class, log, year);
            case 'm': {
                int n = 0;
                for (Row r : rows) {
                    if (r.kind == 1 && r.log == log && r.year <= year && above(r, year) > 0) n++;
                }
                return n;
            }
            case 'f': return falseOnes(log, 0, 0, year);
            case 'k': return made(log, 1, year);
            case 's': return together(log, 1);
            default: return quarrel(log, year) == -5 ? 0 : 1;
        }
    }

    public int says(int committee, int log, int year) {
        if (!in(committee, 0, 5) || !in(log, 0, 1) || !in(year, 0, 99)) return NONE;
        String law = null;
        for (int y = 0; y <= year; y++) {
            for (Object[] l : laws) {
                if ((Integer) l[0] == committee && (Integer) l[1] == y) law = (String) l[2];
            }
        }
        if (law == null || claim[log] == null) return -5;
        return holds(law, log, year) ? 1 : 0;
    }

    public int look(int answers) {
        if (!in(answers, 0, 4095)) return BAD;
        if (looks.size() == 8) return FULL;
        looks.add(answers);
        return looks.size() - 1;
    }

    int[] partsOf(int look, int set) {
        int[] parts = new int[4];
        for (int t = 0; t < 6; t++) {
            if ((set >> t & 1) == 1) parts[looks.get(look) / (int) Math.pow(4, t) % 4] += 1 << t;
        }
        return parts;
    }

    public int worth(int look, int set) {
        if (!in(look, 0, looks.size() - 1)) return NONE;
        if (!in(set, 1, 63)) return BAD;
        int most = 0;
        for (int p : partsOf(look, set)) most = Math.max(most, Integer.bitCount(p));
        return most;
    }

    public int next(int set) {
        if (!in(set, 1, 63)) return BAD;
        if (looks.isEmpty()) return STATE;
        for (int w = 1; ; w++) {
            for (int l = 0; l < looks.size(); l++) {
                if (worth(l, set) == w) return l;
            }
        }
    }

    int worstOf(int set, int n) {
        if (n == 0 || looks.isEmpty() || Integer.bitCount(set) <= 1) return Integer.bitCount(set);
        int best = 7;
        for (int l = 0; l < looks.size(); l++) {
            int most = 0;
            for (int p : partsOf(l, set)) most = Math.max(most, p == set ? worstOf(p, n - 1) : worstOf(p, n - 1));
            best = Math.min(best, most);
        }
        return best;
    }

    public int worst(int set, int n) {
        return in(set, 1, 63) && in(n, 0, 4) ? worstOf(set, n) : BAD;
    }

    public int act(int row, int act, int x) {
        ran = new ArrayList<>();
        if (!in(row, 0, rows.size() - 1) || !in(act, 0, 2)) return 0;
        Row r = rows.get(row);
        r.ran = ran;
        return act == 0 ? r.fits(x) : act == 1 ? r.hangs(x) : r.shows(x);
    }

    public int trace(int i) {
        return in(i, 0, Math.min(20, ran.size()) - 1) ? ran.get(i) : NONE;
    }

    public int taken(int row, int k) {
        Class<?>[] kinds = {Row.class, March.class, Height.class, Compass.class, Picture.class, Word.class, Made.class};
        if (!in(k, 0, 6)) return BAD;
        if (!in(row, 0, rows.size() - 1)) return -11;
        return kinds[k].isInstance(rows.get(row)) ? rows.get(row).kind : -12;
    }

    public int count(int what) {
        int[] all = {now, men.size(), rows.size(), laws.size(), text.length(), looks.size(), misprints.size(), ran.size()};
        return in(what, 0, 7) ? all[what] : BAD;
    }

    public int tape(int tape, int sort, int n) {
        if (!in(tape, 0, 5)) return NONE;
        if (!in(sort, -1, 4) || sort >= 0 && n > 60) return BAD;
        if (sort >= 0 && n < 0) return -14;
        switch (sort) {
            case 0: tapes[tape] = new byte[n]; break;
            case 1: tapes[tape] = new short[n]; break;
            case 2: tapes[tape] = new int[n]; break;
            case 3: tapes[tape] = new float[n]; break;
            case 4: tapes[tape] = new boolean[n]; break;
            default: tapes[tape] = null;
        }
        return 1;
    }

    static int sizeOf(Object t) {
        return java.lang.reflect.Array.getLength(t);
    }

    public int item(int tape, int i, int v) {
        if (!in(tape, 0, 5)) return NONE;
        Object t = tapes[tape];
        if (t == null) return -11;
        if (!in(i, 0, sizeOf(t) - 1)) return -13;
        if (t instanceof float[] f) {
            if (!in(v, -8000000, 8000000)) return BAD;
            f[i] = v / 8f;
        } else if (t instanceof byte[] b) {
            b[i] = (byte) v;
        } else if (t instanceof short[] s) {
            s[i] = (short) v;
        } else if (t instanceof boolean[] z) {
            z[i] = v != 0;
        } else {
            ((int[]) t)[i] = v;
        }
        return 1;
    }

    public int read(int tape, int i) {
        if (!in(tape, 0, 5)) return NO;
        Object t = tapes[tape];
        if (t == null || !in(i, 0, sizeOf(t) - 1)) return NO;
        if (t instanceof float[] f) return (int) (f[i] * 8);
        if (t instanceof byte[] b) return b[i];
        if (t instanceof short[] s) return s[i];
        if (t instanceof boolean[] z) return z[i] ? 1 : 0;
        return ((int[]) t)[i];
    }

    public int shift(int tape, int i, int other, int j, int n) {
        if (!in(tape, 0, 5) || !in(other, 0, 5)) return NONE;
        Object a = tapes[tape], b = tapes[other];
        if (a == null || b == null) return -11;
        if (a.getClass() != b.getClass()) return -12;
        if (n < 0 || i < 0 || j < 0 || (long) i + n > sizeOf(a) || (long) j + n > sizeOf(b)) return -13;
        int[] were = new int[n];
        for (int k = 0; k < n; k++) were[k] = read(tape, i + k);
        for (int k = 0; k < n; k++) item(other, j + k, were[k]);
        return n;
    }
}
