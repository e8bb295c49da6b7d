import java.io.IOException;
import java.lang.reflect.Method;
import java.nio.file.Files;
import java.nio.file.Path;
import java.util.Set;
import java.util.TreeSet;
import java.util.regex.Matcher;
import java.util.regex.Pattern;

/** Each example of README.md answers what stands behind it. The program's path is the argument. */
public final class ReadmeTest {
    private static final Pattern BLOCK = Pattern.compile("(?s)```java\n(.*?)```");
    private static final Pattern CALL = Pattern.compile("x\\.(\\w+)\\(([^()]*)\\); +// (-?\\d+): .*");
    private static final String MAKING = "TillHolds x = new TillHolds();";

    private final Set<String> called = new TreeSet<>();
    private TillHolds x;

    public static void main(String[] args) throws IOException, ReflectiveOperationException {
        Path root = Path.of(args[0]).toAbsolutePath().getParent().getParent().getParent().getParent();
        new ReadmeTest().run(Files.readString(root.resolve("README.md")));
        Check.done();
    }

    private void run(String readme) throws ReflectiveOperationException {
        Matcher block = BLOCK.matcher(readme);
        while (block.find()) {
            x = null;
            for (String line : block.group(1).split("\n")) {
                runLine(line);
            }
        }
        for (Method method : TillHolds.class.getMethods()) {
            if (method.getDeclaringClass() == TillHolds.class) {
                Check.holds("README.md has an example of " + method.getName(), called.contains(method.getName()));
                Check.holds("README.md's table has " + method.getName(), readme.contains("| `" + method.getName() + "("));
            }
        }
    }

    private void runLine(String line) throws ReflectiveOperationException {
        Matcher call = CALL.matcher(line);
        if (line.equals(MAKING)) {
            x = new TillHolds();
        } else if (x != null && call.matches()) {
            called.add(call.group(1));
            Check.due("README.md: " + line, answer(call.group(1), call.group(2)), Integer.parseInt(call.group(3)));
        } else {
            Check.holds("README.md: an example can be read: " + line, false);
        }
    }

    private int answer(String name, String arguments) throws ReflectiveOperationException {
        String[] texts = arguments.split(", ");
        Class<?>[] types = new Class<?>[texts.length];
        Object[] values = new Object[texts.length];
        for (int place = 0; place < texts.length; place++) {
            boolean isFlag = texts[place].matches("true|false");
            types[place] = isFlag ? boolean.class : int.class;
            values[place] = isFlag ? (Object) Boolean.valueOf(texts[place]) : Integer.valueOf(texts[place]);
        }
        return (int) TillHolds.class.getMethod(name, types).invoke(x, values);
    }
}
