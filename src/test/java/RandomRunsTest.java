import java.lang.reflect.Method;
import java.util.ArrayList;
import java.util.HashMap;
import java.util.List;
import java.util.Map;
import java.util.Random;

/**
 * Runs of up to 512 random calls, always the same, on the class and on the Reference: every answer must be
 * alike, and none may be thrown. After an answer that changes nothing, later answers show whether it did.
 */
public final class RandomRunsTest {
    /**
     * What each call's arguments are: a name and a range from .. to. A letter stands for what is there:
     * s a stick, w a wind, v a wind or -1, m a wind, -1 or -2, r a row, t a tick of the latest fly(),
     * S a set of sticks, W a set of winds.
     */
    private static final String[] CALLS = {
        "plain 1..100 0..60 1..20 0..10", "winged 1..100 0..60 1..20 0..10 1..200", "lift s 0..3 0..300", "bend s -9..9",
        "told s 0..6", "lose s 0..1", "wind", "blows w 0..3 0..60 0..359", "swing w -359..359",
        "tree -9000..9000 -9000..9000 1..500 1..3000", "ring 1..2000", "table 0..1 0..359",
        "fly s 0..90 0..359 30..250 100..1000 v", "at t 0..7", "ticks", "hit", "choose S W", "chosen 0..3",
        "keep 0..1 s 0..90 0..359 30..250 100..1000 v", "two 1..100", "match 0..4 m", "style 0..90 0..359 30..250 100..1000",
        "points s v", "best", "order 0..4", "row s 0..90 0..359 30..250 100..1000 -9999..9999 -9999..9999", "miss r -9..9",
        "explain s", "sure s", "unrow", "rows 0..3 0..2 0..10 0..8", "seen t", "patch 0..24 0..1000 1..9",
        "grass 0..24 0..1", "next", "search 0..24", "count 0..5", "sheet 0..3 0..2 0..60", "drop 0..3",
        "item 0..3 0..2 0..59 -200..1000", "copy 0..3 0..20 0..3 0..20 0..20"};
    /** Dear calls, and calls that take things away, are rarer. */
    private static final String RARE = " choose best order explain sure unrow drop lose sheet ";
    private static final int[] ODD = {Integer.MIN_VALUE, Integer.MIN_VALUE + 1, -100001, -10, -5, -4, -3, -2, -1, 0,
        1, 2, 60, 61, 512, 65536, Integer.MAX_VALUE - 1, Integer.MAX_VALUE};
    private static final int RUNS = 400, CALLS_A_RUN = 512;

    private static final Check check = new Check();
    private static final Map<String, Method> BAG = methodsOf(ThrowersBag.class);
    private static final Map<String, Method> REFERENCE = methodsOf(Reference.class);

    private final Random random;
    private final ThrowersBag bag = new ThrowersBag();
    private final Reference reference = new Reference();
    private final List<String> calls = new ArrayList<>();
    private Object[] lastFly = null;
    private boolean wrong = false;

    private RandomRunsTest(long seed) {
        random = new Random(seed);
    }

    public static void main(String[] args) throws Exception {
        int runs = args.length > 0 ? Integer.parseInt(args[0]) : RUNS;
        long first = args.length > 1 ? Long.parseLong(args[1]) : 1;
        for (long seed = first; seed < first + runs; seed++) {
            check.about("run " + seed);
            new RandomRunsTest(seed).run();
        }
        check.end();
    }

    private static Map<String, Method> methodsOf(Class<?> c) {
        Map<String, Method> found = new HashMap<>();
        for (Method m : c.getDeclaredMethods()) {
            if (m.getReturnType() == int.class) {
                found.put(m.getName() + m.getParameterCount(), m);
            }
        }
        return found;
    }

    private void run() throws Exception {
        // A bag that can do something: some runs begin with an empty one all the same.
        int begin = random.nextInt(8);
        for (int i = 0; i < begin; i++) {
            gentleStick(i);
        }
        for (int i = 0; i < begin / 2; i++) {
            call("wind");
            for (int band = 0; band < 4; band++) {
                call("blows", i, band, random.nextInt(20), random.nextInt(360));
            }
        }
        if (random.nextBoolean()) {
            call("ring", 300 + random.nextInt(1701));
        }
        while (calls.size() < CALLS_A_RUN && !wrong) {
            String[] words = CALLS[random.nextInt(CALLS.length)].split(" ");
            if (RARE.contains(" " + words[0] + " ") && random.nextInt(4) != 0) {
                continue;
            }
            step(words);
        }
    }

    private void step(String[] words) throws Exception {
        if (words[0].equals("rows") && random.nextBoolean()) {
            fillSheet();
        } else if (words[0].equals("row") && random.nextBoolean()) {
            truthfulRow();
        } else if (words[0].equals("two") && random.nextBoolean()) {
            keepWhatComesBack(0);
            keepWhatComesBack(1);
            call("two", 1 + random.nextInt(100));
        } else if (words[0].equals("sure")) {
            explainedStick();
        } else if (words[0].equals("best") && random.nextInt(3) == 0) {
            shortOfSticks();
        } else if (words[0].equals("tree") && random.nextBoolean()) {
            treeOnTheWay();
        } else if (words[0].equals("tree") && random.nextInt(3) != 0) {
            return;
        } else {
            Object[] args = new Object[words.length - 1];
            for (int i = 0; i < args.length; i++) {
                args[i] = argument(words[i + 1]);
            }
            call(words[0], args);
        }
    }

    /** One that has a hope of coming back. */
    private void gentleStick(int i) throws Exception {
        if (random.nextBoolean()) {
            call("plain", 1 + random.nextInt(30), 20 + random.nextInt(41), 1 + random.nextInt(6), random.nextInt(3));
        } else {
            call("winged", 1 + random.nextInt(30), 20 + random.nextInt(41), 1 + random.nextInt(6), random.nextInt(3),
                    1 + random.nextInt(60));
        }
        for (int band = 0; band < 4; band++) {
            call("lift", i, band, random.nextInt(60));
        }
    }

    private void truthfulRow() throws Exception {
        if (reference.count(0) > 0) {
            truthfulRow(random.nextInt(reference.count(0)), random.nextInt(19) - 9);
        }
    }

    /** A row as a stick with a bend would really leave it, so that bends can be explained. */
    private void truthfulRow(int s, int bend) throws Exception {
        int lean = random.nextInt(91);
        int angle = random.nextInt(360);
        int strength = 30 + random.nextInt(60);
        int spin = 100 + random.nextInt(901);
        call("bend", s, bend);
        call("fly", s, lean, angle, strength, spin, -1);
        int t = reference.ticks();
        call("row", s, lean, angle, strength, spin, reference.at(t, 0), reference.at(t, 1));
    }

    /** Two to four rows of one bend, and no others of that stick, if there were none. */
    private void explainedStick() throws Exception {
        if (reference.count(0) == 0) {
            return;
        }
        int s = random.nextInt(reference.count(0));
        int bend = random.nextInt(19) - 9;
        for (int n = 2 + random.nextInt(3); n > 0; n--) {
            truthfulRow(s, bend);
        }
        call("explain", s);
        call("sure", s);
    }

    /** Looks for a throw that comes back, by the reference, and keeps it. */
    private void keepWhatComesBack(int which) throws Exception {
        int sticks = reference.count(0);
        for (int i = 0; i < 100 && sticks > 0; i++) {
            Object[] a = {which, random.nextInt(sticks), random.nextInt(91), random.nextInt(360), 30 + random.nextInt(150),
                100 + random.nextInt(901), random.nextInt(reference.count(2) + 1) - 1};
            if (reference.comesBack((int) a[1], (int) a[2], (int) a[3], (int) a[4], (int) a[5], (int) a[6])) {
                call("keep", a);
                return;
            }
        }
    }

    private void shortOfSticks() throws Exception {
        int sticks = reference.count(0);
        for (int s = 0; s < sticks; s++) {
            call("lose", s, random.nextInt(2));
        }
        call("best");
        call("order", random.nextInt(5));
    }

    /** Exactly thick away, or one too thin; exactly as high, or one too low. */
    private void treeOnTheWay() throws Exception {
        int t = reference.ticks();
        if (t == 0 || calls.size() < CALLS_A_RUN / 3) {
            return;
        }
        int tick = random.nextInt(t + 1);
        int thick = 1 + random.nextInt(100);
        int x = reference.at(tick, 0) + thick + random.nextInt(2);
        call("tree", x, reference.at(tick, 1), thick, reference.at(tick, 2) - random.nextInt(2));
        if (lastFly != null) {
            call("fly", lastFly);
            call("hit");
            call("ticks");
        }
    }

    private void fillSheet() throws Exception {
        int sheet = random.nextInt(4);
        int lane = random.nextInt(3);
        int n = random.nextInt(9);
        int i = random.nextInt(5);
        int size = Math.min(60, 7 * n + i);
        call("sheet", sheet, lane, size);
        for (int r = 0; r < n && 7 * r + 7 + i <= size; r++) {
            int[] one = {random.nextInt(Math.max(1, reference.count(0))), random.nextInt(91), random.nextInt(128),
                30 + random.nextInt(98), 100 + random.nextInt(28), random.nextInt(500) - 250, random.nextInt(500) - 250};
            if (random.nextInt(10) == 0) {
                one[random.nextInt(7)] = ODD[random.nextInt(ODD.length)];
            }
            for (int c = 0; c < 7; c++) {
                call("item", sheet, lane, i + 7 * r + c, one[c]);
            }
        }
        call("rows", sheet, lane, i, n);
        if (reference.count(4) > 0) {
            call("miss", reference.count(4) - 1, random.nextInt(19) - 9);
        }
    }

    private Object argument(String kind) {
        if (kind.equals("0..1") && random.nextInt(50) != 0) {
            return random.nextInt(2);
        }
        int[] range = rangeOf(kind);
        int least = range[0];
        int greatest = range[1];
        switch (random.nextInt(40)) {
            case 0: return ODD[random.nextInt(ODD.length)];
            case 1: return least - 1;
            case 2: return greatest + 1;
            case 3: return least;
            case 4: return greatest;
            default: return greatest < least ? least : least + random.nextInt(greatest - least + 1);
        }
    }

    private int[] rangeOf(String kind) {
        switch (kind) {
            case "s": return new int[] {0, reference.count(0) - 1};
            case "w": return new int[] {0, reference.count(2) - 1};
            case "v": return new int[] {-1, reference.count(2) - 1};
            case "m": return new int[] {-2, reference.count(2) - 1};
            case "r": return new int[] {0, reference.count(4) - 1};
            case "t": return new int[] {0, reference.ticks()};
            case "S": return new int[] {1, (1 << reference.count(0)) - 1};
            case "W": return new int[] {1, (1 << reference.count(2)) - 1};
            default:
                String[] ends = kind.split("\\.\\.");
                return new int[] {Integer.parseInt(ends[0]), Integer.parseInt(ends[1])};
        }
    }

    private void call(String name, Object... args) throws Exception {
        if (calls.size() >= CALLS_A_RUN || wrong) {
            return;
        }
        if (name.equals("lose")) {
            args[1] = ((Integer) args[1] & 1) == 1;
        }
        String text = name + java.util.Arrays.toString(args);
        calls.add(text);
        Object want = REFERENCE.get(name + args.length).invoke(reference, args);
        Object got = BAG.get(name + args.length).invoke(bag, args);
        check.due(text + ", call " + calls.size(), (Integer) got, (Integer) want);
        wrong = !got.equals(want);
        if (name.equals("fly") && (Integer) want > 0) {
            lastFly = args;
        }
    }
}
