import java.lang.reflect.Constructor;
import java.lang.reflect.Field;
import java.lang.reflect.Method;
import java.lang.reflect.Modifier;
import java.util.Arrays;
import java.util.Set;
import java.util.TreeSet;

/** The public face: the document's members and no others, and the constants. */
public final class FaceTest {
    private static final Set<String> METHODS = new TreeSet<>(Arrays.asList(
            "int letter(int)", "int blank()", "int fault()", "int tale()",
            "int being(int, int, int, int)", "int about(int, int)", "int as(int, int)", "int may(int)",
            "int deed(int)", "int number()", "int soonest(int, int)", "int together(int, int)",
            "int deep(int)", "int many()", "int nesting(int)", "int told(int, int)", "int forget()",
            "int fits()", "int sure(int)", "int ask()", "int days(int, int, int)", "int image()",
            "int restore()", "int count(int)", "long digest()"));

    public static void main(String[] args) {
        Check.due("NONE", SwallowedInTurn.NONE, -1);
        Check.due("UNKNOWN", SwallowedInTurn.UNKNOWN, -101);
        Check.due("OUTSIDE", SwallowedInTurn.OUTSIDE, -102);
        Check.due("STATE", SwallowedInTurn.STATE, -103);
        Check.due("FULL", SwallowedInTurn.FULL, -104);
        methodsAreThoseOfTheDocument();
        nothingElseIsSeenFromOutside();
        Check.end();
    }

    private static void methodsAreThoseOfTheDocument() {
        Set<String> found = new TreeSet<>();
        Set<String> names = new TreeSet<>();
        for (Method m : SwallowedInTurn.class.getDeclaredMethods()) {
            if (!Modifier.isPrivate(m.getModifiers()) && !m.isSynthetic()) {
                String parameters = Arrays.toString(m.getParameterTypes());
                found.add(m.getReturnType() + " " + m.getName()
                        + "(" + parameters.substring(1, parameters.length() - 1) + ")");
                names.add(m.getName());
                Check.due(m + " is public and of the object",
                        m.getModifiers() & (Modifier.PUBLIC | Modifier.STATIC), Modifier.PUBLIC);
            }
        }
        if (!found.equals(METHODS)) {
            System.out.println("methods found: " + found);
        }
        Check.due("methods are as told", found.equals(METHODS) ? 1 : 0, 1);
        privateNamesAreOthers(SwallowedInTurn.class, names);
        for (Class<?> inner : SwallowedInTurn.class.getDeclaredClasses()) {
            privateNamesAreOthers(inner, names);
            Check.due(inner + " is static", inner.getModifiers() & Modifier.STATIC, Modifier.STATIC);
        }
    }

    private static void privateNamesAreOthers(Class<?> type, Set<String> names) {
        for (Method m : type.getDeclaredMethods()) {
            boolean isFace = type == SwallowedInTurn.class && Modifier.isPublic(m.getModifiers());
            Check.due(m + " bears a name of the face", !isFace && names.contains(m.getName()) ? 1 : 0, 0);
        }
    }

    private static void nothingElseIsSeenFromOutside() {
        int mods = SwallowedInTurn.class.getModifiers();
        Check.due("the class is public and final",
                mods & (Modifier.PUBLIC | Modifier.FINAL), Modifier.PUBLIC | Modifier.FINAL);
        Check.due("constructors", SwallowedInTurn.class.getDeclaredConstructors().length, 1);
        for (Constructor<?> c : SwallowedInTurn.class.getDeclaredConstructors()) {
            Check.due(c + " is public", c.getModifiers() & Modifier.PUBLIC, Modifier.PUBLIC);
            Check.due(c + " takes nothing", c.getParameterCount(), 0);
        }
        Set<String> constants = new TreeSet<>();
        for (Field f : SwallowedInTurn.class.getDeclaredFields()) {
            if (!Modifier.isPrivate(f.getModifiers())) {
                constants.add(f.getName());
            }
        }
        Check.due("constants are as told", constants.equals(new TreeSet<>(
                Arrays.asList("NONE", "UNKNOWN", "OUTSIDE", "STATE", "FULL"))) ? 1 : 0, 1);
    }
}
