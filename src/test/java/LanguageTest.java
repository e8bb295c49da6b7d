import java.io.IOException;
import java.nio.file.Files;
import java.nio.file.Path;
import java.util.regex.Matcher;
import java.util.regex.Pattern;

/** Those rules of LANGUAGE.md that can be seen in the words of the source; its path is the argument. */
public final class LanguageTest {
    private static final String[] OUTSIDE = {
        "\\b(throw|throws|try|catch|finally|synchronized|assert|import|package|native|volatile|transient)\\b",
        "->", "::", "\\bstatic\\s*\\{", "Exact\\b", "\\b(hashCode|toString|Object|Class|Thread|Random)\\b",
        "[^\\x00-\\x7f]"};

    public static void main(String[] args) throws IOException {
        String code = withoutComments(Files.readString(Path.of(args[0])));
        for (String pattern : OUTSIDE) {
            Matcher found = Pattern.compile(pattern).matcher(code);
            Check.holds("nothing like " + pattern, !found.find());
        }
        Matcher library = Pattern.compile("\\b(System|Math|Arrays|Integer|Long|String)\\.(\\w+)").matcher(code);
        while (library.find()) {
            Check.holds(library.group() + " is listed", library.group().matches("Math\\.(min|max|abs)"));
        }
        Check.holds("calls make no objects: new stands in constructors and initialisers alone",
            !code.substring(code.indexOf("public int till")).replaceAll("final .* = new .*;", "").contains("new "));
        Check.done();
    }

    private static String withoutComments(String source) {
        return source.replaceAll("(?s)/\\*.*?\\*/", " ").replaceAll("//[^\n]*", " ");
    }
}
