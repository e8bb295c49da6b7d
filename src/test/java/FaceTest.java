import java.io.IOException;
import java.lang.reflect.Constructor;
import java.lang.reflect.Field;
import java.lang.reflect.Method;
import java.lang.reflect.Modifier;
import java.nio.file.Files;
import java.nio.file.Path;
import java.util.Arrays;
import java.util.List;
import java.util.Set;
import java.util.TreeSet;
import java.util.regex.Matcher;
import java.util.regex.Pattern;

/**
 * The public face: every member of the document, and no other that can be seen. The program's path is the argument.
 */
public final class FaceTest {
    private static final Set<String> FACE = new TreeSet<>(List.of(
        "TillHolds()", "int till(int, int)", "int drop(int)", "int shut(int, boolean)", "int put(int, int, int)",
        "int take(int, int)", "int move(int, int, int, boolean)", "int pass(int, int, boolean)",
        "int share(int, int, int)", "int first(int)", "int look(int, int)", "int hand(int)", "int count(int)"));
    private static final int CONSTANT = Modifier.PUBLIC | Modifier.STATIC | Modifier.FINAL;

    public static void main(String[] args) throws IOException {
        constants();
        methodsAndConstructors();
        classes();
        Path root = Path.of(args[0]).toAbsolutePath().getParent().getParent().getParent().getParent();
        Path document = root.resolve("../shared/DOC.md");
        if (Files.isReadable(document)) {
            compareWith(Files.readString(document));
        } else {
            System.out.println("no document at " + document + ": the face is not compared with it");
        }
        Check.done();
    }

    private static void constants() {
        Set<String> visible = new TreeSet<>();
        for (Field field : TillHolds.class.getDeclaredFields()) {
            if (!Modifier.isPrivate(field.getModifiers())) {
                visible.add(field.getName());
                Check.holds(field + " is a constant", field.getModifiers() == CONSTANT && field.getType() == int.class);
            }
        }
        Check.holds("the constants are the document's: " + visible, visible.equals(new TreeSet<>(List.of("BAD", "NONE"))));
        Check.due("BAD", TillHolds.BAD, -1);
        Check.due("NONE", TillHolds.NONE, -2);
    }

    private static void methodsAndConstructors() {
        Set<String> visible = new TreeSet<>();
        Set<String> publicNames = new TreeSet<>();
        for (Constructor<?> made : TillHolds.class.getDeclaredConstructors()) {
            Check.due(made + ": modifiers", made.getModifiers(), Modifier.PUBLIC);
            visible.add(signature("TillHolds", made.getParameterTypes()));
        }
        for (Method method : TillHolds.class.getDeclaredMethods()) {
            if (!Modifier.isPrivate(method.getModifiers())) {
                Check.due(method + ": modifiers", method.getModifiers(), Modifier.PUBLIC);
                visible.add(method.getReturnType() + " " + signature(method.getName(), method.getParameterTypes()));
                publicNames.add(method.getName());
            }
        }
        Check.holds("the face is the document's: " + visible, visible.equals(FACE));
        for (Method method : TillHolds.class.getDeclaredMethods()) {
            Check.holds(method + " bears no public one's name",
                !Modifier.isPrivate(method.getModifiers()) || !publicNames.contains(method.getName()));
        }
    }

    private static void classes() {
        Check.due("the class: public and final", TillHolds.class.getModifiers(), Modifier.PUBLIC | Modifier.FINAL);
        Check.holds("the class is an Object alone", TillHolds.class.getSuperclass() == Object.class
            && TillHolds.class.getInterfaces().length == 0);
        for (Class<?> inside : TillHolds.class.getDeclaredClasses()) {
            Check.holds(inside + " is static, and can't be seen", Modifier.isStatic(inside.getModifiers())
                && !Modifier.isPublic(inside.getModifiers()) && !Modifier.isProtected(inside.getModifiers()));
        }
    }

    private static void compareWith(String document) {
        String face = document.split("## The public face")[1].split("```")[1];
        Check.holds("the document's class", face.contains("public final class TillHolds {"));
        Check.holds("the document's constants", face.contains("public static final int BAD = -1, NONE = -2;"));
        Set<String> told = new TreeSet<>();
        Matcher member = Pattern.compile("public ((?:int )?\\w+)\\((.*)\\);").matcher(face);
        while (member.find()) {
            told.add(member.group(1) + "(" + member.group(2).replaceAll(" \\w+(?=,|$)", "") + ")");
        }
        Check.holds("the document tells this face: " + told, told.equals(FACE));
    }

    private static String signature(String name, Class<?>[] types) {
        return name + "(" + String.join(", ", Arrays.stream(types).map(Class::getName).toList()) + ")";
    }
}
