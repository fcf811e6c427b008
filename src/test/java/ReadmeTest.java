import java.io.IOException;
import java.lang.reflect.Method;
import java.nio.file.Files;
import java.nio.file.Path;
import java.util.ArrayList;
import java.util.Comparator;
import java.util.List;
import java.util.regex.Matcher;
import java.util.regex.Pattern;
import java.util.stream.Stream;

/**
 * What README.md shows of the use of the class: its program compiles and runs by its commands and prints what it
 * says; its calls answer what stands behind them; every call of the face is shown.
 */
public final class ReadmeTest {
    private static final Pattern BLOCK = Pattern.compile("(?ms)^```(\\w+)\n(.*?)^```$");
    /** "int a = bag.wind();   // 0: words": perhaps a name, the call, the answer. */
    private static final Pattern CALL = Pattern.compile("(?:int (\\w+) = )?(bag\\.(\\w+)\\(.*\\)); +// (-?\\w+)(: .*)?");
    private static final String CLASS_FILE = "src/main/java/ThrowersBag.java";

    private static final Check check = new Check();

    public static void main(String[] args) throws Exception {
        String readme = Files.readString(Path.of("README.md"));
        Path room = Files.createTempDirectory("readme");
        try {
            Files.createDirectories(room.resolve(CLASS_FILE).getParent());
            Files.copy(Path.of(CLASS_FILE), room.resolve(CLASS_FILE));
            program(readme, room);
            calls(readme, room);
        } finally {
            remove(room);
        }
        tests(readme);
        check.end();
    }

    private static void remove(Path room) throws IOException {
        try (Stream<Path> all = Files.walk(room)) {
            for (Path path : all.sorted(Comparator.reverseOrder()).toList()) {
                Files.delete(path);
            }
        }
    }

    private static List<String> blocks(String readme, String kind) {
        List<String> found = new ArrayList<>();
        Matcher block = BLOCK.matcher(readme);
        while (block.find()) {
            if (block.group(1).equals(kind)) {
                found.add(block.group(2));
            }
        }
        return found;
    }

    private static boolean isProgram(String block) {
        return block.contains("public final class");
    }

    /** The commands that README.md tells, in a folder that has what they name. */
    private static void program(String readme, Path room) throws Exception {
        check.about("README.md, its program");
        List<String> programs = blocks(readme, "java").stream().filter(ReadmeTest::isProgram).toList();
        check.due("programs", programs.size(), 1);
        Matcher name = Pattern.compile("public final class (\\w+)").matcher(programs.get(0));
        check.is("it has a name", name.find());
        Files.writeString(room.resolve(name.group(1) + ".java"), programs.get(0));
        String printed = "";
        int commands = 0;
        for (String block : blocks(readme, "sh")) {
            for (String command : block.lines().filter(c -> c.contains(name.group(1))).toList()) {
                printed = runIn(room, command.split(" +"));
                commands++;
            }
        }
        check.due("commands that compile it and run it", commands, 2);
        List<String> shown = blocks(readme, "text");
        check.due("what is printed is shown once", shown.size(), 1);
        check.is("it prints what README.md shows, and not: " + printed, printed.equals(shown.get(0)));
    }

    private static String runIn(Path room, String... command) throws Exception {
        ProcessBuilder builder = new ProcessBuilder(command).directory(room.toFile());
        Process process = builder.redirectError(ProcessBuilder.Redirect.INHERIT).start();
        String printed = new String(process.getInputStream().readAllBytes());
        check.is(String.join(" ", command) + " ends well", process.waitFor() == 0);
        return printed;
    }

    /** All other blocks of Java, one after the other, are the body of one method; each call is asked for its answer. */
    private static void calls(String readme, Path room) throws Exception {
        check.about("README.md, its calls");
        StringBuilder body = new StringBuilder();
        List<String> shown = new ArrayList<>();
        for (String block : blocks(readme, "java")) {
            if (!isProgram(block)) {
                block.lines().forEach(line -> body.append(asked(line.trim(), shown)).append('\n'));
            }
        }
        for (Method m : ThrowersBag.class.getDeclaredMethods()) {
            if (java.lang.reflect.Modifier.isPublic(m.getModifiers())) {
                check.is(m.getName() + " is shown", shown.contains(m.getName()));
            }
        }
        Files.writeString(room.resolve("Calls.java"), """
            public final class Calls {
                public static void main(String[] args) {
            """ + body + """
                }

                private static void due(String call, int got, int want) {
                    if (got != want) {
                        System.out.println(call + " answered " + got + ", README.md says " + want);
                    }
                }
            }
            """);
        runIn(room, "javac", "-d", "calls", CLASS_FILE, "Calls.java");
        String wrong = runIn(room, "java", "-cp", "calls", "Calls");
        check.is("all answer as README.md says: " + wrong, wrong.isEmpty());
    }

    private static String asked(String line, List<String> shown) {
        Matcher call = CALL.matcher(line);
        if (!call.matches()) {
            check.is("a line with a call tells its answer: " + line, !line.contains("bag."));
            return line;
        }
        shown.add(call.group(3));
        String want = call.group(4).matches("[A-Z]+") ? "ThrowersBag." + call.group(4) : call.group(4);
        String quoted = "\"" + call.group(2) + "\"";
        String name = call.group(1);
        if (name == null) {
            return "due(" + quoted + ", " + call.group(2) + ", " + want + ");";
        }
        return "int " + name + " = " + call.group(2) + ";\ndue(" + quoted + ", " + name + ", " + want + ");";
    }

    private static void tests(String readme) {
        check.about("README.md, its tests");
        check.is("it tells how the tests are run", blocks(readme, "sh").stream().anyMatch(b -> b.contains(".ci/run")));
        check.is(".ci/run can be run", Files.isExecutable(Path.of(".ci/run")));
        Matcher named = Pattern.compile("\\w+Test\\b").matcher(readme);
        while (named.find()) {
            check.is(named.group() + " is there", Files.exists(Path.of("src/test/java", named.group() + ".java")));
        }
    }
}
