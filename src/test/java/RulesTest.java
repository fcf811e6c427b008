import java.nio.file.Files;
import java.nio.file.Path;
import java.util.List;
import java.util.regex.Matcher;
import java.util.regex.Pattern;

/** Rules of LANGUAGE.md that can be read off the text of the class. */
public final class RulesTest {
    private static final Path SOURCE = Path.of("src/main/java/ThrowersBag.java");
    private static final String[] NEVER = {
        "package", "finally", "synchronized", "assert", "volatile", "catch", "try", "throw", "throws", "protected",
        "Object", "System\\.(?!arraycopy)", "Math\\.\\w*Exact", "Thread", "Random", "double", "float", "->", "::",
        "hashCode", "toString", "@"};
    private static final int LONGEST_METHOD = 60;

    private static final Check check = new Check();

    public static void main(String[] args) throws Exception {
        String text = Files.readString(SOURCE);
        String code = text.replaceAll("(?s)/\\*.*?\\*/", " ").replaceAll("//[^\n]*", " ");
        check.about("rules");
        for (String word : NEVER) {
            Pattern pattern = Pattern.compile(word.matches("\\w+") ? "\\b" + word + "\\b" : word);
            Matcher found = pattern.matcher(code);
            check.is("no " + word + " in the class", !found.find());
        }
        check.is("the one import is java.util.Arrays", code.split("\\bimport\\b").length == 2
                && code.contains("import java.util.Arrays;"));
        check.is("no loop without a bound", !code.contains("while"));
        check.is("ASCII alone", text.chars().allMatch(c -> c < 128));
        methodsAreShort(code.lines().toList());
        check.end();
    }

    private static void methodsAreShort(List<String> lines) {
        int begun = -1;
        for (int i = 0; i < lines.size(); i++) {
            String line = lines.get(i);
            if (line.matches(" {4,8}\\w.*\\) \\{")) {
                begun = i;
            }
            if (line.matches(" {4,8}}") && begun >= 0) {
                check.is("the method at line " + begun + " is short", i - begun < LONGEST_METHOD);
                begun = -1;
            }
        }
    }
}
