import java.lang.reflect.Method;
import java.util.Arrays;
import java.util.Random;
import java.util.TreeMap;

/** Long random runs, each call asked of the class and of Model; also that no call throws, whatever it is given. */
public final class ModelTest {
    private static final int RUNS = 1500, CALLS = 512;
    private static final int[] FAR = {Integer.MIN_VALUE, Integer.MIN_VALUE + 1, -1000000000, -401, -2, -1, 0, 1,
        64, 200, 400, 1000000, Integer.MAX_VALUE - 1, Integer.MAX_VALUE};
    private static final TreeMap<String, Method> OF_CLASS = new TreeMap<>(), OF_MODEL = new TreeMap<>();
    private static final TreeMap<String, TreeMap<Integer, Integer>> SEEN = new TreeMap<>();

    private final Random random;
    private final PoleLogs program = new PoleLogs();
    private final Model model = new Model();
    private final StringBuilder history = new StringBuilder();
    private final int days;
    private int calls;

    private ModelTest(long seed) {
        random = new Random(seed);
        days = 2 + random.nextInt(12);
    }

    public static void main(String[] args) throws Exception {
        for (Method m : PoleLogs.class.getDeclaredMethods()) {
            if (java.lang.reflect.Modifier.isPublic(m.getModifiers())) {
                OF_CLASS.put(m.getName(), m);
                OF_MODEL.put(m.getName(), Model.class.getDeclaredMethod(m.getName(), m.getParameterTypes()));
            }
        }
        for (int run = 0; run < RUNS; run++) {
            ModelTest test = new ModelTest(run);
            boolean wild = run % 10 == 0;
            String[] names = OF_CLASS.keySet().toArray(new String[0]);
            while (test.calls < CALLS) {
                if (wild) {
                    test.wild(names[test.random.nextInt(names.length)]);
                } else {
                    test.step();
                }
            }
        }
        Due.due("methods that were called", SEEN.size(), 43);
        for (int answer : new int[] {-5, 0, 1}) {
            Due.due("says answered " + answer + " often", SEEN.get("says").getOrDefault(answer, 0) > 500 ? 1 : 0, 1);
        }
        Due.end();
    }

    private void ask(String name, Object... args) throws Exception {
        if (calls >= CALLS) {
            return;
        }
        calls++;
        String call = name + Arrays.toString(args);
        history.append(call).append('\n');
        int got = (Integer) OF_CLASS.get(name).invoke(program, args);
        int want = (Integer) OF_MODEL.get(name).invoke(model, args);
        SEEN.computeIfAbsent(name, n -> new TreeMap<>()).merge(got, 1, Integer::sum);
        if (got != want) {
            System.out.println(history);
        }
        Due.due(call, got, want);
    }

    private void wild(String name) throws Exception {
        Class<?>[] types = OF_CLASS.get(name).getParameterTypes();
        Object[] args = new Object[types.length];
        for (int i = 0; i < args.length; i++) {
            if (types[i] == boolean.class) {
                args[i] = random.nextBoolean();
            } else {
                args[i] = random.nextInt(3) == 0 ? random.nextInt(6) : random.nextInt(4) == 0 ? random.nextInt()
                    : FAR[random.nextInt(FAR.length)];
            }
        }
        ask(name, args);
    }

    /** A number of lo .. hi, now and then just beside that or far off. */
    private int num(int lo, int hi) {
        int r = random.nextInt(150);
        if (r == 0) {
            return lo - 1;
        }
        if (r == 1) {
            return hi + 1;
        }
        if (r == 2) {
            return FAR[random.nextInt(FAR.length)];
        }
        return lo + random.nextInt(hi - lo + 1);
    }

    private int log() {
        return num(0, 1);
    }

    private int day() {
        return random.nextInt(20) == 0 ? num(0, 199) : num(0, days);
    }

    private int year() {
        return random.nextInt(4) == 0 ? num(0, 99) : num(0, Math.min(99, model.now + 1));
    }

    private int row() {
        return num(0, Math.max(0, model.rows.size() - 1));
    }

    private int coordinate() {
        return random.nextInt(3) == 0 ? num(-400, 399) : num(-130, 130);
    }

    /** A PLACE that matters: a claim, a place on a way, or any. */
    private int[] spot(int log, int day) {
        int l = log & 1;
        int d = day < 0 || day > 199 ? 0 : day;
        switch (random.nextInt(4)) {
            case 0: return model.claim[l] == null ? model.start[l] : model.claim[l];
            case 1: case 2: return model.at(l, d, 99);
            default: return new int[] {coordinate(), coordinate()};
        }
    }

    private int minutes(int log, int day) {
        int d = day < 0 || day > 199 ? 0 : day;
        int number = random.nextInt(4) == 0 && model.misprints.containsKey(d) ? model.misprints.get(d) : model.sun[d];
        int[] p = spot(log, d);
        int exact = 5400 - Model.lat(new int[] {Model.cut(p[0]), Model.cut(p[1])}) + number;
        return random.nextInt(3) == 0 ? exact : num(Math.max(0, exact - 12), exact + 12);
    }

    private String part(int depth) {
        int r = random.nextInt(depth == 0 ? 8 : 6);
        if (r == 0 && depth < 5) {
            return "!" + part(depth + 1);
        }
        if (r == 1 && depth < 5) {
            return "(" + text(depth + 1) + ")";
        }
        char letter = "hcpwmfksq".charAt(random.nextInt(9));
        return "" + letter + "<=>".charAt(random.nextInt(3)) + random.nextInt(random.nextInt(5) == 0 ? 999 : 5);
    }

    private String text(int depth) {
        StringBuilder s = new StringBuilder(part(depth));
        for (int i = random.nextInt(3); i > 0; i--) {
            s.append("&|".charAt(random.nextInt(2))).append(part(depth));
        }
        return s.toString();
    }

    private void makeLaw() throws Exception {
        StringBuilder s = new StringBuilder(text(0));
        if (random.nextInt(3) == 0) {
            s.setCharAt(random.nextInt(s.length()), "h>1&|!()0 z\u00e9".charAt(random.nextInt(12)));
        }
        if (random.nextInt(4) == 0) {
            s.setLength(random.nextInt(s.length()));
        }
        int at = 0;
        while (at < s.length()) {
            int n = Math.min(s.length() - at, 1 + random.nextInt(4));
            int bytes = random.nextInt();
            for (int i = 0; i < n; i++) {
                bytes = bytes << 8 | s.charAt(at + i);
            }
            ask("feed", bytes, n);
            at += n;
        }
        ask("count", 4);
        ask("law", num(0, 5) % 2, random.nextInt(4) == 0 ? num(0, 99) : num(0, 4));
    }

    private void fillTape() throws Exception {
        int tape = num(0, 5);
        int sort = num(-1, 4);
        ask("tape", tape, sort, random.nextInt(4) == 0 ? num(0, 60) : num(0, 24));
        for (int i = random.nextInt(8); i > 0; i--) {
            ask("item", tape, num(0, 9), random.nextInt(3) == 0 ? random.nextInt() : num(-40, 400));
        }
    }

    private void holdDrift() throws Exception {
        int log = log() & 1;
        int tape = num(0, 5);
        ask("tape", tape, 0, num(2, 20));
        int k = random.nextInt(3);
        if (model.claim[log] != null) {
            ask("item", tape, 2 * k, model.needs(log, 0) + random.nextInt(5) - 2);
            ask("item", tape, 2 * k + 1, model.needs(log, 1) + random.nextInt(5) - 2);
        }
        ask("held", log, tape, num(1, 10));
        ask("held", log, tape, k + 1);
    }

    private void tornTape() throws Exception {
        int tape = num(0, 5);
        int log = log();
        int day = day();
        ask("tape", tape, 1, num(1, 8));
        for (int i = 0; i < 4; i++) {
            ask("item", tape, i, random.nextInt(4) == 0 ? -1 : minutes(log, day + i));
        }
        ask("torn", log, day, tape, num(0, 2), num(1, 40), num(0, 60));
    }

    private void step() throws Exception {
        int log = log();
        int day = day();
        int[] p = spot(log, day);
        switch (random.nextInt(48)) {
            case 0: ask("pass", random.nextInt(8) == 0 ? num(1, 20) : num(1, 2)); break;
            case 1: ask("drift", num(0, 63), num(-30, 30), num(-30, 30)); break;
            case 2: ask("drift", Model.cell(model.at(log & 1, Math.min(9, days), 99)), num(-5, 5), num(-5, 5)); break;
            case 3: ask("ice", Model.cell(new int[] {Model.cut(p[0]), Model.cut(p[1])}), num(0, 1), num(-7, 9)); break;
            case 4: ask("ice", num(0, 63), num(0, 1), num(0, 8)); break;
            case 5: ask("sun", day, num(0, 1500)); break;
            case 6: ask("man", num(1, 20), num(0, 9)); break;
            case 7: ask("party", log, num(0, (1 << model.men.size()) - 1), num(0, 30), num(0, 9999)); break;
            case 8: ask("start", log, coordinate(), coordinate()); break;
            case 9: ask("claim", log, p[0], p[1], random.nextInt(12) == 0 ? -1 : day); break;
            case 10: case 11: ask("march", log, day, num(0, 24), num(0, 60), num(0, 15)); break;
            case 12: case 13:
                ask("height", log, day, minutes(log, day), random.nextInt(3) == 0 ? 0 : num(0, 60), random.nextBoolean());
                break;
            case 14: ask("compass", log, day, random.nextInt(3) == 0 ? 0 : num(0, 15)); break;
            case 15: {
                Model.Row m = model.marchOf(log & 1, day, 99);
                ask("compass", log, day, m == null ? num(0, 15) : (m.numbers[2] + random.nextInt(2)) % 16);
                break;
            }
            case 16: {
                int shadow = num(1, 999);
                int d = day < 0 || day > 199 ? 0 : day;
                int due = (model.sun[d] + 5400 - Model.lat(new int[] {Model.cut(p[0]), Model.cut(p[1])})) / 54;
                ask("picture", log, day, random.nextInt(4) == 0 ? num(1, 999) : due * shadow / 100 + 1, shadow, num(0, 9));
                break;
            }
            case 17: ask("word", log, day, num(0, Math.max(0, model.men.size() - 1)), p[0], p[1], num(0, 30)); break;
            case 18: tornTape(); break;
            case 19: ask("of", row(), num(0, 7)); break;
            case 20: case 21: ask("fits", row(), p[0], p[1]); break;
            case 22: ask("place", log, random.nextInt(9) == 0 ? num(-1, 199) : day, year()); break;
            case 23: ask("can", log, day); break;
            case 24: ask("beyond", log, num(0, 1)); break;
            case 25: ask("latitude", coordinate(), coordinate()); break;
            case 26: ask("quarrel", log); break;
            case 27: ask("home", log); break;
            case 28: ask("needs", log, num(0, 1)); break;
            case 29: holdDrift(); break;
            case 30: case 31: ask("falses", log, num(0, 2), num(0, 99), year()); break;
            case 32: case 33: ask("least", log, random.nextInt(3) == 0 ? 0 : num(0, 99), year()); break;
            case 34: ask("misprint", day, random.nextInt(3) == 0 ? -1 : num(0, 1500)); break;
            case 35: ask("made", log, num(0, 1)); break;
            case 36: makeLaw(); break;
            case 37: case 38: ask("says", num(0, 5) % 2, log, year()); break;
            case 39: ask("look", random.nextInt(9) == 0 ? num(0, 4095) : num(0, 4095) & random.nextInt(4096)); break;
            case 40: ask("worth", num(0, Math.max(0, model.looks.size() - 1)), num(1, 63)); break;
            case 41: ask("next", num(1, 63)); break;
            case 42: ask("worst", num(1, 63), random.nextInt(3) == 0 ? num(0, 4) : num(0, 2)); break;
            case 43: ask("act", row(), num(0, 2), random.nextInt(3) == 0 ? random.nextInt() : num(-9, 99)); break;
            case 44: ask("trace", num(0, 14)); break;
            case 45: ask("taken", row(), num(0, 6)); break;
            case 46: ask("count", num(0, 7)); break;
            default:
                fillTape();
                ask("read", num(0, 5), num(0, 9));
                ask("shift", num(0, 5), num(0, 5), num(0, 5), num(0, 5), num(0, 6));
        }
    }
}
