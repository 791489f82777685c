import java.lang.reflect.Constructor;
import java.lang.reflect.Field;
import java.lang.reflect.Method;
import java.lang.reflect.Modifier;
import java.util.Set;
import java.util.TreeSet;

/** The public face: just the members that the document lists, the constants with their values. */
public final class FaceTest {
    private static final String[] CONSTANTS = {
        "REFUSED", "FULL", "UNDEFINED", "RECURSIVE", "ENDLESS", "MISMATCH", "DEEP", "TIRED", "LARGE", "NONE"
    };
    private static final String[] METHODS = {
        "node/3", "rule/2", "compile/1", "empty/1", "first/1", "next/1", "clash/1", "feed/1", "wipe/0", "parse/0",
        "place/0", "due/0", "tree/2", "count/1"
    };

    public static void main(String[] args) throws IllegalAccessException {
        Check check = new Check();
        int modifiers = ParserGenerator.class.getModifiers();
        check.holds("the class is public and final", Modifier.isPublic(modifiers) && Modifier.isFinal(modifiers));
        constructors(check);
        constants(check);
        methods(check);
        check.end("FaceTest");
    }

    private static void constructors(Check check) {
        Constructor<?>[] all = ParserGenerator.class.getDeclaredConstructors();
        check.same("constructors", all.length, 1);
        check.holds("the constructor is public", Modifier.isPublic(all[0].getModifiers()));
        check.same("its parameters", all[0].getParameterCount(), 0);
    }

    private static void constants(Check check) throws IllegalAccessException {
        Set<String> visible = new TreeSet<>();
        for (Field field : ParserGenerator.class.getDeclaredFields()) {
            if (!Modifier.isPrivate(field.getModifiers())) {
                visible.add(field.getName());
                check.holds(field.getName() + " is a public int constant", field.getType() == int.class
                    && field.getModifiers() == (Modifier.PUBLIC | Modifier.STATIC | Modifier.FINAL));
                check.holds(field.getName() + " is the document's", indexOf(field.getName()) >= 0);
                check.same(field.getName(), field.getInt(null), -1 - indexOf(field.getName()));
            }
        }
        check.same("visible fields", visible.size(), CONSTANTS.length);
    }

    private static int indexOf(String name) {
        for (int i = 0; i < CONSTANTS.length; i++) {
            if (CONSTANTS[i].equals(name)) {
                return i;
            }
        }
        return -1;
    }

    private static void methods(Check check) {
        Set<String> visible = new TreeSet<>();
        for (Method method : ParserGenerator.class.getDeclaredMethods()) {
            if (!Modifier.isPrivate(method.getModifiers()) && !method.isSynthetic()) {
                visible.add(method.getName() + "/" + method.getParameterCount());
                check.holds(method.getName() + " is public, of the object, and answers an int",
                    method.getModifiers() == Modifier.PUBLIC && method.getReturnType() == int.class);
            }
        }
        check.holds("visible methods are the document's: " + visible, visible.equals(new TreeSet<>(Set.of(METHODS))));
    }
}
