import java.lang.reflect.Constructor;
import java.lang.reflect.Field;
import java.lang.reflect.Method;
import java.lang.reflect.Modifier;
import java.util.Arrays;
import java.util.HashSet;
import java.util.Set;
import java.util.TreeSet;

/** The public face of the document, and what the rules of the language say of members. */
public final class FaceTest {
    private static final String INDEX = " throws IndexOutOfBoundsException";
    private static final String ARGUMENT = " throws IllegalArgumentException";
    private static final String STATE = " throws IllegalStateException";
    private static final String[] FACE = {
        "int feed(int, int, int, int, int)" + STATE,
        "int trim(int)" + ARGUMENT,
        "int teach()",
        "int errorAt()",
        "int hire(int)" + ARGUMENT + ", IllegalStateException",
        "int assign(int, int)" + INDEX,
        "boolean setClouds(boolean)",
        "boolean lightLamp(int)" + INDEX,
        "boolean douseLamp(int)" + INDEX,
        "int fillLamp(int, int)" + INDEX + ", IllegalArgumentException",
        "int trimLamp(int)" + INDEX,
        "int passQuarters(int)" + ARGUMENT,
        "int passNights(int)" + ARGUMENT,
        "int lamps()",
        "int rounds()",
        "int acts()",
        "int postOf(int)" + INDEX,
        "int roomOf(int)" + INDEX,
        "int oilOf(int)" + INDEX,
        "int wickOf(int)" + INDEX,
        "boolean isLit(int)" + INDEX,
        "int darkOf(int)" + INDEX,
        "int litLamps()",
        "int oilBurnt()",
        "int night()",
        "int quarter()",
        "int moonlight()",
        "boolean isOff()",
        "int lighters()",
        "int placeOf(int)" + INDEX,
        "int canOf(int)" + INDEX,
        "boolean hasRound(int)" + INDEX,
        "int roundOf(int)" + INDEX + ", IllegalStateException",
        "boolean isDone(int)" + INDEX,
        "int busyOf(int)" + INDEX,
        "int notesOf(int)" + INDEX,
        "int noteOf(int, int)" + INDEX,
        "int quartersUntilLit(int)" + INDEX,
        "int darkAfter(int)" + ARGUMENT,
        "int nightsUntilOff()",
        "int bestRound(int, int)" + INDEX + ", IllegalArgumentException, IllegalStateException",
        "double meanOil()",
        "long digest()",
    };

    private FaceTest() {
    }

    public static void main(String[] args) {
        Class<?> face = LampLighters.class;
        Check.same("final and public", face.getModifiers(), Modifier.PUBLIC | Modifier.FINAL);
        Check.same("constructors", face.getDeclaredConstructors().length, 1);
        for (Constructor<?> made : face.getDeclaredConstructors()) {
            Check.same("public constructor", made.getModifiers(), Modifier.PUBLIC);
            Check.same("parameters of the constructor", made.getParameterCount(), 0);
        }
        Set<String> names = new HashSet<>();
        Set<String> found = new TreeSet<>();
        for (Method method : face.getDeclaredMethods()) {
            if (Modifier.isPrivate(method.getModifiers())) {
                continue;
            }
            Check.same(method + " is public alone", method.getModifiers(), Modifier.PUBLIC);
            found.add(said(method));
            names.add(method.getName());
        }
        Set<String> due = new TreeSet<>(Arrays.asList(FACE));
        for (String one : due) {
            Check.same("the face has " + one, found.contains(one), true);
        }
        for (String one : found) {
            Check.same("the document has " + one, due.contains(one), true);
        }
        inside(face, names);
        Check.end();
    }

    private static void inside(Class<?> face, Set<String> names) {
        fields(face);
        noName(face, names);
        for (Class<?> inner : face.getDeclaredClasses()) {
            Check.same(inner + " is static", Modifier.isStatic(inner.getModifiers()), true);
            Check.same(inner + " is private", Modifier.isPrivate(inner.getModifiers()), true);
            for (Field field : inner.getDeclaredFields()) {
                Check.same(field + " is no static that changes", isStaticVariable(field), false);
            }
            Check.same("fields of " + inner, inner.getDeclaredFields().length <= 20, true);
            noName(inner, names);
        }
        Check.same("classes", face.getDeclaredClasses().length <= 12, true);
    }

    private static void fields(Class<?> face) {
        for (Field field : face.getDeclaredFields()) {
            Check.same(field + " is private", Modifier.isPrivate(field.getModifiers()), true);
            Check.same(field + " is no static that changes", isStaticVariable(field), false);
        }
    }

    private static boolean isStaticVariable(Field field) {
        return Modifier.isStatic(field.getModifiers()) && !Modifier.isFinal(field.getModifiers());
    }

    /** No method but the public ones bears the name of a public one. */
    private static void noName(Class<?> in, Set<String> names) {
        for (Method method : in.getDeclaredMethods()) {
            boolean isFace = in == LampLighters.class && Modifier.isPublic(method.getModifiers());
            Check.same(method + " has a name of its own", !isFace && names.contains(method.getName()), false);
        }
    }

    private static String said(Method method) {
        StringBuilder text = new StringBuilder(method.getReturnType().getSimpleName());
        text.append(' ').append(method.getName()).append('(').append(listed(method.getParameterTypes())).append(')');
        if (method.getExceptionTypes().length > 0) {
            text.append(" throws ").append(listed(method.getExceptionTypes()));
        }
        return text.toString();
    }

    private static String listed(Class<?>[] types) {
        StringBuilder text = new StringBuilder();
        for (Class<?> type : types) {
            text.append(text.length() > 0 ? ", " : "").append(type.getSimpleName());
        }
        return text.toString();
    }
}
