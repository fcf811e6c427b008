import java.lang.reflect.Method;
import java.util.ArrayList;
import java.util.Arrays;
import java.util.EnumMap;
import java.util.HashMap;
import java.util.List;
import java.util.Map;

/**
 * Runs of calls on a new object, a call a line; what follows "//" is not read.
 *
 * "plain 5 0 1 0 = 0" answers 0. "*3 wind" is called three times and its answers are not looked at.
 * "plain 0 0 1 0 ! BAD" is refused: it answers so and changes nothing, as all Probes of an object that was
 * asked and of one that was not show. "plain [1..100] 0 1 0 ! BAD" is refused so at 0, at 101, at MIN and at
 * MAX, and is not at 1 and at 100. "plain [1..100 0 1 0 ! BAD" looks at the least number alone, "plain 1..100] .."
 * at the greatest alone: where beyond the other end something else is answered.
 *
 * Arguments and answers are numbers, true, false, MIN, MAX or constants of the class, an answer also a
 * constant less a number: "BAD-10".
 */
final class Script {
    private static final Map<String, Method> METHODS = new HashMap<>();

    static {
        for (Method m : ThrowersBag.class.getMethods()) {
            if (m.getDeclaringClass() == ThrowersBag.class) {
                METHODS.put(m.getName(), m);
            }
        }
    }

    private record Call(String text, Method method, Object[] args) {
        static Call of(String text) {
            String[] words = text.split("\\s+");
            Method m = METHODS.get(words[0]);
            if (m == null || m.getParameterCount() != words.length - 1) {
                throw new IllegalArgumentException(text);
            }
            Object[] args = new Object[words.length - 1];
            for (int i = 0; i < args.length; i++) {
                String word = words[i + 1];
                boolean isTruth = word.equals("true") || word.equals("false");
                args[i] = isTruth ? (Object) Boolean.valueOf(word) : (Object) numberOf(word);
            }
            return new Call(text, m, args);
        }

        int on(ThrowersBag bag) {
            try {
                return (Integer) method.invoke(bag, args);
            } catch (ReflectiveOperationException e) {
                throw new IllegalStateException(text, e);
            }
        }
    }

    private final Check check;
    private final ThrowersBag bag = new ThrowersBag();
    /** The calls that were not to be refused: a new object on which they are called is as this one should be. */
    private final List<Call> history = new ArrayList<>();
    /** What the Probes show after the history; forgotten when it grows. */
    private final Map<Probe, int[]> shown = new EnumMap<>(Probe.class);

    private Script(Check check) {
        this.check = check;
    }

    static ThrowersBag run(Check check, String about, String text) {
        check.about(about);
        Script script = new Script(check);
        text.lines().forEach(script::line);
        return script.bag;
    }

    /** Whether a Probe tells an object that was asked once more from one that was not. */
    static boolean changes(Check check, String text, String call) {
        return !differs(check, text, text + "\n*1 " + call).isEmpty();
    }

    /** By which Probe, and by which of its answers, two runs can be told apart that leave an object behind; or "". */
    static String differs(Check check, String one, String other) {
        Script first = new Script(check);
        Script second = new Script(check);
        one.lines().forEach(first::line);
        other.lines().forEach(second::line);
        for (Probe probe : Probe.values()) {
            int differs = Arrays.mismatch(probe.look(first.again()), probe.look(second.again()));
            if (differs >= 0) {
                return probe + ", answer " + differs;
            }
        }
        return "";
    }

    private void line(String whole) {
        String text = whole.replaceFirst("//.*", "").trim();
        if (text.isEmpty()) {
            return;
        }
        if (text.startsWith("*")) {
            String[] parts = text.substring(1).split(" ", 2);
            for (int i = Integer.parseInt(parts[0]); i > 0; i--) {
                go(Call.of(parts[1]));
            }
            return;
        }
        String[] sides = text.split(" [=!] ");
        if (sides.length != 2) {
            throw new IllegalArgumentException(whole);
        }
        String call = sides[0].trim();
        int due = numberOf(sides[1].trim());
        if (text.contains(" = ")) {
            check.due(call, go(Call.of(call)), due);
        } else if (call.contains("..")) {
            range(call, due);
        } else {
            refused(Call.of(call), due);
        }
    }

    private int go(Call call) {
        history.add(call);
        shown.clear();
        return call.on(bag);
    }

    private void refused(Call call, int due) {
        check.due(call.text, call.on(bag), due);
        for (Probe probe : Probe.values()) {
            int[] want = shown.computeIfAbsent(probe, p -> p.look(again()));
            ThrowersBag asked = again();
            call.on(asked);
            int[] got = probe.look(asked);
            int differs = Arrays.mismatch(got, want);
            check.is(call.text + " changes nothing (" + probe + ", answer " + differs + ")", differs < 0);
        }
    }

    private ThrowersBag again() {
        ThrowersBag other = new ThrowersBag();
        history.forEach(call -> call.on(other));
        return other;
    }

    private void range(String text, int due) {
        String[] words = text.split("\\s+");
        int at = 0;
        while (!words[at].contains("..")) {
            at++;
        }
        String word = words[at];
        String[] ends = word.replaceAll("[\\[\\]]", "").split("\\.\\.");
        if (word.startsWith("[")) {
            int least = numberOf(ends[0]);
            edge(words, at, least, new int[] {least - 1, Integer.MIN_VALUE}, due);
        }
        if (word.endsWith("]")) {
            int greatest = numberOf(ends[1]);
            edge(words, at, greatest, new int[] {greatest + 1, Integer.MAX_VALUE}, due);
        }
    }

    private void edge(String[] words, int at, int within, int[] beyond, int due) {
        words[at] = Integer.toString(within);
        Call good = Call.of(String.join(" ", words));
        check.is(good.text + " is not refused", good.on(again()) != due);
        for (int n : beyond) {
            words[at] = Integer.toString(n);
            refused(Call.of(String.join(" ", words)), due);
        }
    }

    private static int numberOf(String word) {
        int dash = word.indexOf('-', 1);
        if (dash > 0) {
            return numberOf(word.substring(0, dash)) - numberOf(word.substring(dash + 1));
        }
        switch (word) {
            case "BAD": return ThrowersBag.BAD;
            case "NOT": return ThrowersBag.NOT;
            case "FULL": return ThrowersBag.FULL;
            case "NONE": return ThrowersBag.NONE;
            case "NULL": return ThrowersBag.NULL;
            case "CAST": return ThrowersBag.CAST;
            case "INDEX": return ThrowersBag.INDEX;
            case "SIZE": return ThrowersBag.SIZE;
            case "MIN": return Integer.MIN_VALUE;
            case "MAX": return Integer.MAX_VALUE;
            default: return Integer.parseInt(word);
        }
    }
}
