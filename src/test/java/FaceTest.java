import java.lang.reflect.Constructor;
import java.lang.reflect.Field;
import java.lang.reflect.Member;
import java.lang.reflect.Method;
import java.lang.reflect.Modifier;
import java.util.ArrayList;
import java.util.Arrays;
import java.util.HashSet;
import java.util.List;
import java.util.Set;
import java.util.TreeSet;

/** The public face is the document's, no more and no less, and the constants are as told. */
public final class FaceTest {
    private static final String STATE = "IllegalStateException";
    private static final String ARGUMENT = "IllegalArgumentException";
    private static final String ELEMENT = "NoSuchElementException";
    private static final String UNSUPPORTED = "UnsupportedOperationException";

    public static void main(String[] args) {
        Check.sentence("Terms", "The constants: `CONFLICT = -1`, `NONE = -1`");
        Check.answers("CONFLICT", SnapshotShelves.CONFLICT, -1);
        Check.answers("NONE", SnapshotShelves.NONE, -1);
        Check.sentence("The public face", "public final class SnapshotShelves");
        Class<?> face = SnapshotShelves.class;
        Check.answers("public and final", Modifier.toString(face.getModifiers()), "public final");
        Check.answers("methods", publicMethods(face), documentMethods());
        Check.answers("constructors", constructors(face), List.of("public()"));
        Check.answers("visible fields", visibleFields(face),
                new TreeSet<>(List.of("public static final int CONFLICT", "public static final int NONE")));
        Check.answers("names that are public and private", namesOfBothKinds(face), Set.of());
        Check.answers("other visible methods", otherVisibleMethods(face), List.of());
        Check.end();
    }

    private static Set<String> documentMethods() {
        return new TreeSet<>(List.of(
                line("int begin()", UNSUPPORTED),
                line("int beginAt(int)", ARGUMENT, UNSUPPORTED),
                line("long read(int,int)", STATE, ARGUMENT, ELEMENT),
                line("void write(int,int,long)", STATE, ARGUMENT, UNSUPPORTED),
                line("void erase(int,int)", STATE, ARGUMENT, ELEMENT, UNSUPPORTED),
                line("int mark(int)", STATE),
                line("void rollback(int,int)", STATE, ARGUMENT),
                line("int next(int,int)", STATE, ARGUMENT),
                line("int commit(int)", STATE, UNSUPPORTED),
                line("void abort(int)", STATE),
                line("int vacuum()"),
                line("int time()"),
                line("int live()"),
                line("int start(int)", STATE),
                line("int versions(int)", ARGUMENT),
                line("int timeOf(int,int)", ARGUMENT, ELEMENT),
                line("long valueOf(int,int)", ARGUMENT, ELEMENT)));
    }

    private static String line(String signature, String... exceptions) {
        return signature + " throws " + Arrays.asList(exceptions);
    }

    private static Set<String> publicMethods(Class<?> face) {
        Set<String> lines = new TreeSet<>();
        for (Method m : face.getDeclaredMethods()) {
            if (Modifier.isPublic(m.getModifiers())) {
                lines.add(line(m.getReturnType() + " " + m.getName() + types(m.getParameterTypes()),
                        simpleNames(m.getExceptionTypes())));
            }
        }
        return lines;
    }

    private static String types(Class<?>[] parameters) {
        return "(" + String.join(",", simpleNames(parameters)) + ")";
    }

    private static String[] simpleNames(Class<?>[] classes) {
        return Arrays.stream(classes).map(Class::getSimpleName).toArray(String[]::new);
    }

    private static List<String> constructors(Class<?> face) {
        List<String> lines = new ArrayList<>();
        for (Constructor<?> c : face.getDeclaredConstructors()) {
            lines.add(Modifier.toString(c.getModifiers()) + types(c.getParameterTypes()));
        }
        return lines;
    }

    private static Set<String> visibleFields(Class<?> face) {
        Set<String> lines = new TreeSet<>();
        for (Field f : face.getDeclaredFields()) {
            if (isVisible(f)) {
                lines.add(Modifier.toString(f.getModifiers()) + " " + f.getType() + " " + f.getName());
            }
        }
        return lines;
    }

    private static Set<String> namesOfBothKinds(Class<?> face) {
        Set<String> open = new HashSet<>();
        Set<String> hidden = new HashSet<>();
        for (Method m : face.getDeclaredMethods()) {
            (Modifier.isPublic(m.getModifiers()) ? open : hidden).add(m.getName());
        }
        open.retainAll(hidden);
        return open;
    }

    private static List<String> otherVisibleMethods(Class<?> face) {
        List<String> names = new ArrayList<>();
        for (Method m : face.getDeclaredMethods()) {
            if (isVisible(m) && !Modifier.isPublic(m.getModifiers())) {
                names.add(m.getName());
            }
        }
        return names;
    }

    private static boolean isVisible(Member m) {
        return !Modifier.isPrivate(m.getModifiers()) && !m.isSynthetic();
    }
}
