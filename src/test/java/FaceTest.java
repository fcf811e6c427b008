import java.lang.reflect.Constructor;
import java.lang.reflect.Field;
import java.lang.reflect.Member;
import java.lang.reflect.Method;
import java.lang.reflect.Modifier;
import java.util.Arrays;
import java.util.Set;
import java.util.TreeSet;

/** The face is the document's, and no more (rule 1 of LANGUAGE.md). */
public final class FaceTest {
    private static final String[] METHODS = {
        "plain/4", "winged/5", "lift/3", "bend/2", "told/2", "lose/2", "wind/0", "blows/4", "swing/2", "tree/4",
        "ring/1", "table/2", "fly/6", "at/2", "ticks/0", "hit/0", "choose/2", "chosen/1", "keep/7", "two/1",
        "match/2", "style/4", "points/2", "best/0", "order/1", "row/7", "miss/2", "explain/1", "sure/1", "unrow/0",
        "rows/4", "seen/1", "patch/3", "grass/2", "next/0", "search/1", "count/1", "sheet/3", "drop/1", "item/4",
        "copy/5"};
    private static final String[] CONSTANTS = {"BAD", "NOT", "FULL", "NONE", "NULL", "CAST", "INDEX", "SIZE"};
    private static final int[] VALUES = {-1, -2, -3, -4, -11, -12, -13, -14};

    private static final Check check = new Check();

    public static void main(String[] args) throws Exception {
        int modifiers = ThrowersBag.class.getModifiers();
        check.about("face");
        check.is("the class is public and final", Modifier.isPublic(modifiers) && Modifier.isFinal(modifiers));
        methods();
        constants();
        constructors();
        inside();
        check.end();
    }

    private static void methods() {
        Set<String> open = new TreeSet<>();
        Set<String> names = new TreeSet<>();
        for (Method m : ThrowersBag.class.getDeclaredMethods()) {
            if (!Modifier.isPrivate(m.getModifiers())) {
                open.add(m.getName() + "/" + m.getParameterCount());
                names.add(m.getName());
                check.is(m + " is public, answers an int and throws nothing", Modifier.isPublic(m.getModifiers())
                        && !Modifier.isStatic(m.getModifiers())
                        && m.getReturnType() == int.class && m.getExceptionTypes().length == 0);
                checkParameters(m);
            }
        }
        check.is("the open methods are the document's: " + open, open.equals(new TreeSet<>(Arrays.asList(METHODS))));
        for (Method m : ThrowersBag.class.getDeclaredMethods()) {
            if (Modifier.isPrivate(m.getModifiers())) {
                check.is(m + " does not bear a public name", !names.contains(m.getName()));
            }
        }
        for (Class<?> c : ThrowersBag.class.getDeclaredClasses()) {
            for (Method m : c.getDeclaredMethods()) {
                check.is(m + " does not bear a public name", !names.contains(m.getName()));
                check.is(m + " takes at most seven", m.getParameterCount() <= 7);
            }
        }
    }

    private static void checkParameters(Method m) {
        Class<?>[] types = m.getParameterTypes();
        for (int i = 0; i < types.length; i++) {
            Class<?> due = m.getName().equals("lose") && i == 1 ? boolean.class : int.class;
            check.is(m + " parameter " + i, types[i] == due);
        }
    }

    private static void constants() throws Exception {
        Set<String> open = new TreeSet<>();
        for (Field f : ThrowersBag.class.getDeclaredFields()) {
            if (!Modifier.isPrivate(f.getModifiers())) {
                open.add(f.getName());
                int m = f.getModifiers();
                check.is(f + " is a constant", Modifier.isPublic(m) && Modifier.isStatic(m) && Modifier.isFinal(m));
            }
        }
        check.is("the open fields are the constants: " + open, open.equals(new TreeSet<>(Arrays.asList(CONSTANTS))));
        for (int i = 0; i < CONSTANTS.length; i++) {
            check.due(CONSTANTS[i], ThrowersBag.class.getField(CONSTANTS[i]).getInt(null), VALUES[i]);
        }
    }

    private static void constructors() {
        Constructor<?>[] all = ThrowersBag.class.getDeclaredConstructors();
        check.is("one public constructor of nothing", all.length == 1
                && Modifier.isPublic(all[0].getModifiers()) && all[0].getParameterCount() == 0);
    }

    private static void inside() {
        Class<?>[] classes = ThrowersBag.class.getDeclaredClasses();
        check.is("at most some twelve classes", classes.length <= 11);
        for (Class<?> c : classes) {
            check.is(c + " is static", Modifier.isStatic(c.getModifiers()));
            check.is(c + " is not open", !Modifier.isPublic(c.getModifiers()) && !Modifier.isProtected(c.getModifiers()));
            check.is(c + " has some twenty fields", countOwn(c.getDeclaredFields()) <= 20);
        }
        check.is("the class has some twenty fields", countOwn(ThrowersBag.class.getDeclaredFields()) <= 20);
    }

    private static int countOwn(Member[] fields) {
        int n = 0;
        for (Member f : fields) {
            if (!Modifier.isStatic(f.getModifiers())) {
                n++;
            }
        }
        return n;
    }
}
