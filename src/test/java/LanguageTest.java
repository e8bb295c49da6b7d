import java.io.IOException;
import java.lang.reflect.Executable;
import java.lang.reflect.Field;
import java.lang.reflect.Modifier;
import java.nio.file.Files;
import java.nio.file.Path;
import java.util.ArrayList;
import java.util.List;
import java.util.Set;
import java.util.regex.Matcher;
import java.util.regex.Pattern;

/**
 * Those rules of LANGUAGE.md that can be seen in the words of the source, whose path is the argument, and in the
 * shape of its classes.
 */
public final class LanguageTest {
    private static final String[] OUTSIDE = {
        "\\b(throw|throws|try|catch|finally|synchronized|assert|import|package|native|volatile|transient)\\b",
        "->", "::", "\\bstatic\\s*\\{", "Exact\\b", "\\b(hashCode|toString|Object|Class|Thread|Random)\\b",
        "[^\\x00-\\x7f]", "\""};
    private static final Set<Class<?>> TYPES = Set.of(int.class, boolean.class, void.class, int[].class);
    private static final Set<Class<?>> STATIC_TYPES = Set.of(int.class, int[].class);

    private final String code;
    private final List<Class<?>> classes = new ArrayList<>(List.of(TillHolds.class.getDeclaredClasses()));

    private LanguageTest(String source) {
        code = withoutComments(source);
        classes.add(TillHolds.class);
    }

    public static void main(String[] args) throws IOException {
        LanguageTest test = new LanguageTest(Files.readString(Path.of(args[0])));
        test.words();
        test.library();
        test.objects();
        test.divisors();
        test.lengths();
        for (Class<?> one : test.classes) {
            test.fields(one);
            test.methods(one);
        }
        Check.done();
    }

    private void words() {
        for (String pattern : OUTSIDE) {
            Check.holds("nothing like " + pattern, !Pattern.compile(pattern).matcher(code).find());
        }
    }

    private void library() {
        Matcher library = Pattern.compile("\\b(System|Math|Arrays|Integer|Long|String)\\.(\\w+)").matcher(code);
        while (library.find()) {
            Check.holds(library.group() + " is listed", library.group().matches("Math\\.(min|max|abs)"));
        }
    }

    private void objects() {
        Check.holds("calls make no objects: new stands in constructors and initialisers alone",
            !code.substring(code.indexOf("public int till")).replaceAll("final .* = new .*;", "").contains("new "));
    }

    /** A divisor is a number that can be seen not to be 0, or a name that the same line looks at first. */
    private void divisors() {
        Matcher division = Pattern.compile("(.*)[/%]=? *([\\w.]+|.)").matcher(code);
        while (division.find()) {
            String divisor = division.group(2);
            Check.holds(division.group().strip() + ": the divisor is looked at",
                divisor.matches("[1-9]\\d*") || division.group(1).contains(divisor + " > 0 ?"));
        }
    }

    private void lengths() {
        Check.holds("at most twelve classes", classes.size() <= 12);
        Matcher method = Pattern.compile("(?ms)^( +)\\S[^\\n;=]*\\) \\{$.*?^\\1\\}$").matcher(code);
        int methods = 0;
        while (method.find()) {
            methods++;
            long lines = method.group().lines().count();
            Check.holds(method.group().lines().findFirst().orElse("") + " has " + lines + " lines", lines <= 60);
        }
        Check.holds("methods are found: " + methods, methods > 12);
    }

    private void fields(Class<?> one) {
        int kept = 0;
        for (Field field : one.getDeclaredFields()) {
            boolean isStatic = Modifier.isStatic(field.getModifiers());
            kept += isStatic ? 0 : 1;
            Check.holds(field + ": a static field is a constant",
                !isStatic || Modifier.isFinal(field.getModifiers()) && STATIC_TYPES.contains(field.getType()));
            Check.holds(field + ": its type is allowed", isAllowed(field.getType()));
        }
        Check.holds(one + " has at most twenty fields", kept <= 20);
    }

    private void methods(Class<?> one) {
        for (Executable method : one.getDeclaredMethods()) {
            Check.holds(method + " takes at most seven", method.getParameterCount() <= 7);
            for (Class<?> type : method.getParameterTypes()) {
                Check.holds(method + ": its types are allowed", isAllowed(type));
            }
        }
    }

    private boolean isAllowed(Class<?> type) {
        return TYPES.contains(type) || classes.contains(type) || type.isArray() && classes.contains(type.getComponentType());
    }

    private static String withoutComments(String source) {
        return source.replaceAll("(?s)/\\*.*?\\*/", " ").replaceAll("//[^\n]*", " ");
    }
}
