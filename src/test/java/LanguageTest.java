import java.io.IOException;
import java.lang.reflect.Executable;
import java.lang.reflect.Field;
import java.lang.reflect.Method;
import java.lang.reflect.Modifier;
import java.nio.file.Files;
import java.nio.file.Path;
import java.util.ArrayList;
import java.util.Arrays;
import java.util.List;
import java.util.Set;
import java.util.TreeSet;
import java.util.regex.Matcher;
import java.util.regex.Pattern;

/** Those rules of ../shared/LANGUAGE.md that can be seen from the compiled class and from its text. */
public final class LanguageTest {
    private static final Path SOURCE = Path.of("src/main/java/VersionRanges.java");
    private static final Pattern COMMENT = Pattern.compile("/\\*.*?\\*/|//[^\n]*", Pattern.DOTALL);
    private static final String[] RULED_OUT = {
        "\\bpackage\\b", "\\bthrows?\\b", "\\btry\\b", "\\bcatch\\b", "\\bsynchronized\\b", "\\bassert\\b",
        "->", "::", "\\bstatic\\s*\\{", "Exact\\b", "\\bSystem\\b(?!\\.arraycopy\\b)", "\\b(Thread|Random)\\b",
    };

    public static void main(String[] args) throws IOException {
        Checks checks = new Checks();
        List<Class<?>> classes = new ArrayList<>(List.of(VersionRanges.class));
        classes.addAll(Arrays.asList(VersionRanges.class.getDeclaredClasses()));
        checks.due("rule 11: more than twelve classes", Math.max(classes.size(), 12), 12);
        for (Class<?> each : classes) {
            nesting(checks, each);
            fields(checks, each);
            parameters(checks, each);
            privateNames(checks, each);
        }
        text(checks, COMMENT.matcher(Files.readString(SOURCE)).replaceAll(" "));
        checks.finish();
    }

    private static void nesting(Checks checks, Class<?> each) {
        if (each == VersionRanges.class) {
            return;
        }
        String name = each.getSimpleName();
        checks.due("rule 1: " + name + " is static", Modifier.isStatic(each.getModifiers()) ? 1 : 0, 1);
        checks.due("rule 1: " + name + " can be seen",
                each.getModifiers() & (Modifier.PUBLIC | Modifier.PROTECTED), 0);
        checks.due("rule 2: classes in " + name, each.getDeclaredClasses().length, 0);
    }

    private static void fields(Checks checks, Class<?> each) {
        int own = 0;
        for (Field field : each.getDeclaredFields()) {
            String name = each.getSimpleName() + "." + field.getName();
            if (Modifier.isStatic(field.getModifiers())) {
                checks.due("rule 5: " + name + " is final", Modifier.isFinal(field.getModifiers()) ? 1 : 0, 1);
            } else {
                own++;
            }
        }
        checks.due("rule 11: more than twenty fields in " + each.getSimpleName(), Math.max(own, 20), 20);
    }

    private static void parameters(Checks checks, Class<?> each) {
        List<Executable> all = new ArrayList<>(Arrays.asList(each.getDeclaredMethods()));
        all.addAll(Arrays.asList(each.getDeclaredConstructors()));
        for (Executable one : all) {
            checks.due("rule 11: more than seven parameters of " + one, Math.max(one.getParameterCount(), 7), 7);
        }
    }

    private static void privateNames(Checks checks, Class<?> each) {
        Set<String> face = new TreeSet<>();
        for (Method method : VersionRanges.class.getMethods()) {
            face.add(method.getName());
        }
        for (Method method : each.getDeclaredMethods()) {
            boolean bears = Modifier.isPrivate(method.getModifiers()) && face.contains(method.getName());
            checks.due("rule 1: a public name for " + method, bears ? 1 : 0, 0);
        }
    }

    private static void text(Checks checks, String code) {
        for (String pattern : RULED_OUT) {
            Matcher found = Pattern.compile(pattern).matcher(code);
            checks.due("ruled out: " + pattern, found.find() ? 1 : 0, 0);
        }
    }
}
