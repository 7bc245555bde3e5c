import java.lang.reflect.Constructor;
import java.lang.reflect.Field;
import java.lang.reflect.Method;
import java.lang.reflect.Modifier;
import java.util.Arrays;
import java.util.Set;
import java.util.TreeSet;

/** The public face, to the letter, and nothing beside it that could be reached from outside. */
public final class FaceTest {
    private static final String X = " IndexOutOfBoundsException";
    private static final String A = " IllegalArgumentException";
    private static final String S = " IllegalStateException";
    private static final String[] FACE = {
        "boolean house int int" + X + S, "int block int int int" + X + A + S, "int cell int int" + X,
        "int gather int int int" + X + A + S, "int order int int" + X + A + S, "boolean torch int" + X + S,
        "int patrol int int int int" + X + A + S, "int crowd int int" + X, "int guard int int" + X,
        "boolean sees int int" + X, "int count int" + X, "int way int int int int" + X, "int shuts",
        "int pass int" + A, "int foresee int int" + A + X, "int advise int" + X, "double mean", "long digest"};

    private static final Checks checks = new Checks();

    public static void main(String[] args) {
        Class<?> face = LaneCrowds.class;
        checks.same("modifiers", face.getModifiers(), Modifier.PUBLIC | Modifier.FINAL);
        checks.same("constructors", face.getDeclaredConstructors().length, 1);
        for (Constructor<?> made : face.getDeclaredConstructors()) {
            checks.same("constructor's modifiers", made.getModifiers(), Modifier.PUBLIC);
            checks.same("constructor's parameters", made.getParameterCount(), 0);
        }
        Set<String> names = new TreeSet<>();
        Set<String> publics = new TreeSet<>();
        for (Method method : face.getDeclaredMethods()) {
            if (Modifier.isPublic(method.getModifiers())) {
                checks.same(method + " modifiers", method.getModifiers(), Modifier.PUBLIC);
                publics.add(written(method));
                names.add(method.getName());
            }
        }
        checks.holds("the face " + publics, publics.equals(new TreeSet<>(Arrays.asList(FACE))));
        hidden(face, names);
        for (Class<?> inside : face.getDeclaredClasses()) {
            checks.holds(inside + " static and not public",
                Modifier.isStatic(inside.getModifiers()) && !Modifier.isPublic(inside.getModifiers()));
            hidden(inside, names);
        }
        checks.end();
    }

    private static void hidden(Class<?> owner, Set<String> publicNames) {
        for (Method method : owner.getDeclaredMethods()) {
            if (!Modifier.isPublic(method.getModifiers())) {
                checks.holds(method + " private", Modifier.isPrivate(method.getModifiers()));
                checks.holds(method + " not named as a public one", !publicNames.contains(method.getName()));
            }
            checks.holds(method + " with at most 7 parameters", method.getParameterCount() <= 7);
        }
        for (Field field : owner.getDeclaredFields()) {
            checks.holds(field + " private", Modifier.isPrivate(field.getModifiers()));
            checks.holds(field + " final if static",
                !Modifier.isStatic(field.getModifiers()) || Modifier.isFinal(field.getModifiers()));
        }
    }

    private static String written(Method method) {
        StringBuilder text = new StringBuilder(method.getReturnType() + " " + method.getName());
        for (Class<?> parameter : method.getParameterTypes()) {
            text.append(' ').append(parameter);
        }
        for (Class<?> thrown : method.getExceptionTypes()) {
            text.append(' ').append(thrown.getSimpleName());
        }
        return text.toString();
    }
}
