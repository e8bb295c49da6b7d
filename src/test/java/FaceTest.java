import java.lang.reflect.Field;
import java.lang.reflect.Method;
import java.lang.reflect.Modifier;
import java.util.Arrays;
import java.util.Set;
import java.util.TreeSet;

/** The public face: every member of the document, and no other that can be seen. */
public final class FaceTest {
    private static final String[] FACE = {
        "BAD", "NONE", "till(int, int)", "drop(int)", "shut(int, boolean)", "put(int, int, int)",
        "take(int, int)", "move(int, int, int, boolean)", "pass(int, int, boolean)", "share(int, int, int)",
        "first(int)", "look(int, int)", "hand(int)", "count(int)"};

    public static void main(String[] args) {
        Set<String> visible = new TreeSet<>();
        Set<String> publicNames = new TreeSet<>();
        for (Field field : TillHolds.class.getDeclaredFields()) {
            if (!Modifier.isPrivate(field.getModifiers())) {
                visible.add(field.getName());
            }
        }
        for (Method method : TillHolds.class.getDeclaredMethods()) {
            if (!Modifier.isPrivate(method.getModifiers())) {
                visible.add(signature(method));
                publicNames.add(method.getName());
                Check.holds(method + " is public and answers int",
                    Modifier.isPublic(method.getModifiers()) && method.getReturnType() == int.class);
            }
        }
        Check.holds("the face is the document's: " + visible, visible.equals(new TreeSet<>(Arrays.asList(FACE))));
        for (Method method : TillHolds.class.getDeclaredMethods()) {
            Check.holds(method + " bears no public one's name",
                !Modifier.isPrivate(method.getModifiers()) || !publicNames.contains(method.getName()));
        }
        Check.holds("the class is public and final", TillHolds.class.getModifiers() == (Modifier.PUBLIC | Modifier.FINAL));
        Check.due("constructors", TillHolds.class.getDeclaredConstructors().length, 1);
        Check.due("BAD", TillHolds.BAD, -1);
        Check.due("NONE", TillHolds.NONE, -2);
        Check.done();
    }

    private static String signature(Method method) {
        StringBuilder text = new StringBuilder(method.getName()).append('(');
        for (Class<?> type : method.getParameterTypes()) {
            text.append(text.charAt(text.length() - 1) == '(' ? "" : ", ").append(type.getName());
        }
        return text.append(')').toString();
    }
}
