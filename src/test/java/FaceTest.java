import java.lang.reflect.Constructor;
import java.lang.reflect.Field;
import java.lang.reflect.Method;
import java.lang.reflect.Modifier;
import java.util.Set;
import java.util.TreeSet;

/** The document's public face, and nothing beside it that is not private. */
public final class FaceTest {
    private static final Set<String> METHODS = Set.of("feed/5", "end/1", "take/0", "compare/2", "part/2", "rank/1",
            "match/0", "clear/0");
    private static final Set<String> CONSTANTS = Set.of("REFUSED", "NONE", "FULL", "FAULT");

    public static void main(String[] args) {
        Checks checks = new Checks();
        checks.due("REFUSED", VersionRanges.REFUSED, -1);
        checks.due("NONE", VersionRanges.NONE, -2);
        checks.due("FULL", VersionRanges.FULL, -3);
        checks.due("FAULT", VersionRanges.FAULT, -4);
        checks.due("public final class", VersionRanges.class.getModifiers(), Modifier.PUBLIC | Modifier.FINAL);
        constructors(checks);
        constants(checks);
        methods(checks);
        checks.finish();
    }

    private static void constructors(Checks checks) {
        Constructor<?>[] all = VersionRanges.class.getDeclaredConstructors();
        checks.due("constructors", all.length, 1);
        checks.due("the constructor is public", all[0].getModifiers(), Modifier.PUBLIC);
        checks.due("its parameters", all[0].getParameterCount(), 0);
    }

    private static void constants(Checks checks) {
        Set<String> seen = new TreeSet<>();
        for (Field field : VersionRanges.class.getDeclaredFields()) {
            if (!Modifier.isPrivate(field.getModifiers())) {
                seen.add(field.getName());
            }
        }
        checks.due("the constants of the face " + seen, seen.equals(CONSTANTS) ? 1 : 0, 1);
    }

    private static void methods(Checks checks) {
        Set<String> seen = new TreeSet<>();
        for (Method method : VersionRanges.class.getDeclaredMethods()) {
            if (!Modifier.isPrivate(method.getModifiers())) {
                seen.add(method.getName() + "/" + method.getParameterCount());
                checks.due(method.getName() + " answers an int", method.getReturnType() == int.class ? 1 : 0, 1);
                checks.due(method.getName() + " is public alone", method.getModifiers(), Modifier.PUBLIC);
            }
        }
        checks.due("the methods of the face " + seen, seen.equals(METHODS) ? 1 : 0, 1);
    }
}
