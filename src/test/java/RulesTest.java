import java.lang.reflect.Field;
import java.lang.reflect.Method;
import java.lang.reflect.Modifier;
import java.nio.file.Files;
import java.nio.file.Path;
import java.util.ArrayList;
import java.util.HashMap;
import java.util.List;
import java.util.Map;
import java.util.Set;
import java.util.regex.Matcher;
import java.util.regex.Pattern;

/** Rules of LANGUAGE.md that can be read off the text of the class, or off its members. */
public final class RulesTest {
    private static final Path SOURCE = Path.of("src/main/java/ThrowersBag.java");
    private static final String[] NEVER = {
        "package", "finally", "synchronized", "assert", "volatile", "catch", "try", "throw", "throws", "protected",
        "Object", "System\\.(?!arraycopy)", "Math\\.\\w*Exact", "Thread", "Random", "double", "float", "->", "::",
        "hashCode", "toString", "@"};
    private static final int LONGEST_METHOD = 60, MOST_PARAMETERS = 7, DEEPEST_CALLS = 8;
    private static final Set<Class<?>> OF_CONSTANTS = Set.of(int.class, long.class, boolean.class, char.class, String.class,
            int[].class, long[].class, char[].class, byte[].class);

    private static final Check check = new Check();

    public static void main(String[] args) throws Exception {
        String text = Files.readString(SOURCE);
        String code = text.replaceAll("(?s)/\\*.*?\\*/", " ").replaceAll("//[^\n]*", " ");
        check.about("rules");
        for (String word : NEVER) {
            Pattern pattern = Pattern.compile(word.matches("\\w+") ? "\\b" + word + "\\b" : word);
            Matcher found = pattern.matcher(code);
            check.is("no " + word + " in the class", !found.find());
        }
        check.is("the one import is java.util.Arrays", code.split("\\bimport\\b").length == 2
                && code.contains("import java.util.Arrays;"));
        check.is("no loop without a bound", !code.contains("while"));
        check.is("ASCII alone", text.chars().allMatch(c -> c < 128));
        methodsAreShort(code.lines().toList());
        callsAreFlat(code);
        members();
        check.end();
    }

    private static void members() {
        List<Class<?>> all = new ArrayList<>(List.of(ThrowersBag.class.getDeclaredClasses()));
        all.add(ThrowersBag.class);
        for (Class<?> c : all) {
            for (Field f : c.getDeclaredFields()) {
                boolean isConstant = Modifier.isFinal(f.getModifiers()) && OF_CONSTANTS.contains(f.getType());
                check.is(f + " is a constant, if it is static", isConstant || !Modifier.isStatic(f.getModifiers()));
            }
            for (Method m : c.getDeclaredMethods()) {
                check.is(m + " takes at most seven", m.getParameterCount() <= MOST_PARAMETERS);
            }
        }
    }

    /** By names alone, which is never less than what is so: a method is as deep as the deepest that it names. */
    private static void callsAreFlat(String code) {
        Map<String, Set<String>> named = new HashMap<>();
        Matcher method = Pattern.compile("(?ms)^( {4,8})(?:\\w+ )+(\\w+)\\([^)]*\\) \\{\n(.*?)^\\1}").matcher(code);
        while (method.find()) {
            Set<String> calls = named.computeIfAbsent(method.group(2), name -> new java.util.TreeSet<>());
            Matcher call = Pattern.compile("(\\w+)\\(").matcher(method.group(3));
            while (call.find()) {
                calls.add(call.group(1));
            }
        }
        check.is("the methods are found: " + named.size(), named.size() > 80);
        for (String name : named.keySet()) {
            int deep = depth(name, named, new ArrayList<>());
            check.is(name + " goes " + deep + " deep", deep <= DEEPEST_CALLS);
        }
    }

    private static int depth(String name, Map<String, Set<String>> named, List<String> open) {
        // A method that calls itself is counted once: the rule is about calls that are no recursion.
        if (!named.containsKey(name) || open.contains(name)) {
            return 0;
        }
        open.add(name);
        int deepest = 0;
        for (String called : named.get(name)) {
            deepest = Math.max(deepest, depth(called, named, open));
        }
        open.remove(name);
        return deepest + 1;
    }

    private static void methodsAreShort(List<String> lines) {
        int begun = -1;
        for (int i = 0; i < lines.size(); i++) {
            String line = lines.get(i);
            if (line.matches(" {4,8}\\w.*\\) \\{")) {
                begun = i;
            }
            if (line.matches(" {4,8}}") && begun >= 0) {
                check.is("the method at line " + begun + " is short", i - begun < LONGEST_METHOD);
                begun = -1;
            }
        }
    }
}
