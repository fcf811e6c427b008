import java.lang.reflect.Method;
import java.util.HashMap;
import java.util.Map;

/**
 * Runs of calls on a new object, a call a line: "plain 5 0 1 0 = 0". Arguments and answers are numbers, true,
 * false, MIN, MAX or constants of the class, an answer also a constant less a number: "BAD-10". What follows
 * "//" is not read; "*3 wind" is called three times and its answers are not looked at.
 */
final class Script {
    private static final Map<String, Method> METHODS = new HashMap<>();

    static {
        for (Method m : ThrowersBag.class.getMethods()) {
            if (m.getDeclaringClass() == ThrowersBag.class) {
                METHODS.put(m.getName(), m);
            }
        }
    }

    private final Check check;
    private final ThrowersBag bag = new ThrowersBag();

    private Script(Check check) {
        this.check = check;
    }

    static ThrowersBag run(Check check, String about, String text) {
        check.about(about);
        Script script = new Script(check);
        text.lines().forEach(script::line);
        return script.bag;
    }

    private void line(String whole) {
        String text = whole.replaceFirst("//.*", "").trim();
        if (text.isEmpty()) {
            return;
        }
        if (text.startsWith("*")) {
            String[] parts = text.substring(1).split(" ", 2);
            for (int i = Integer.parseInt(parts[0]); i > 0; i--) {
                call(parts[1]);
            }
            return;
        }
        String[] sides = text.split(" = ");
        if (sides.length != 2) {
            throw new IllegalArgumentException(whole);
        }
        check.due(sides[0].trim(), call(sides[0].trim()), numberOf(sides[1].trim()));
    }

    private int call(String text) {
        String[] words = text.split("\\s+");
        Method m = METHODS.get(words[0]);
        if (m == null || m.getParameterCount() != words.length - 1) {
            throw new IllegalArgumentException(text);
        }
        Object[] args = new Object[words.length - 1];
        for (int i = 0; i < args.length; i++) {
            String word = words[i + 1];
            boolean isTruth = word.equals("true") || word.equals("false");
            args[i] = isTruth ? (Object) Boolean.valueOf(word) : (Object) numberOf(word);
        }
        try {
            return (Integer) m.invoke(bag, args);
        } catch (ReflectiveOperationException e) {
            throw new IllegalStateException(text, e);
        }
    }

    private static int numberOf(String word) {
        int dash = word.indexOf('-', 1);
        if (dash > 0) {
            return numberOf(word.substring(0, dash)) - numberOf(word.substring(dash + 1));
        }
        switch (word) {
            case "BAD": return ThrowersBag.BAD;
            case "NOT": return ThrowersBag.NOT;
            case "FULL": return ThrowersBag.FULL;
            case "NONE": return ThrowersBag.NONE;
            case "NULL": return ThrowersBag.NULL;
            case "CAST": return ThrowersBag.CAST;
            case "INDEX": return ThrowersBag.INDEX;
            case "SIZE": return ThrowersBag.SIZE;
            case "MIN": return Integer.MIN_VALUE;
            case "MAX": return Integer.MAX_VALUE;
            default: return Integer.parseInt(word);
        }
    }
}
