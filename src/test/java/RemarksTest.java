import java.io.IOException;
import java.nio.file.Files;
import java.nio.file.Path;
import java.util.ArrayList;
import java.util.LinkedHashMap;
import java.util.List;
import java.util.Map;
import java.util.regex.Matcher;
import java.util.regex.Pattern;
import java.util.stream.Stream;

/**
 * Each test of an edge names the sentence that it holds the class to, in that sentence's own words, and no sentence
 * of what the class is, of the terms and of the promises goes without a test. The program's path is the argument.
 */
public final class RemarksTest {
    private static final Pattern TEST = Pattern.compile("(.*)\\n    private static void (\\w+)\\(\\) \\{");
    private static final Pattern REMARK = Pattern.compile("    // ([^:]+): \"(.+)\"");

    public static void main(String[] args) throws IOException {
        Path root = Path.of(args[0]).toAbsolutePath().getParent().getParent().getParent().getParent();
        Map<String, List<String>> quotes = new LinkedHashMap<>();
        try (Stream<Path> files = Files.list(root.resolve("src/test/java"))) {
            for (Path file : files.filter(RemarksTest::hasEdges).sorted().toList()) {
                readRemarks(file, quotes);
            }
        }
        Path document = root.resolve("../shared/DOC.md");
        if (Files.isReadable(document)) {
            compareAll(sections(Files.readString(document)), quotes);
        } else {
            System.out.println("no document at " + document + ": the remarks are not compared with it");
        }
        Check.done();
    }

    private static void compareAll(Map<String, String> sections, Map<String, List<String>> quotes) {
        quotes.forEach((name, ofSection) -> compare(name, sections.getOrDefault(name, ""), ofSection));
        sections.forEach((name, text) -> {
            if (name.equals("What it is") || name.equals("Terms") || name.startsWith("Promise")) {
                Check.holds("section '" + name + "' has a test", quotes.containsKey(name));
            }
        });
    }

    private static boolean hasEdges(Path file) {
        return file.getFileName().toString().matches("Edge.*Test\\.java");
    }

    private static void readRemarks(Path file, Map<String, List<String>> quotes) throws IOException {
        String source = Files.readString(file);
        Matcher test = TEST.matcher(source);
        int tests = 0;
        while (test.find()) {
            tests++;
            Matcher remark = REMARK.matcher(test.group(1));
            String name = file.getFileName() + ", " + test.group(2);
            Check.holds(name + " has a remark with its sentence", remark.matches());
            if (remark.matches()) {
                quotes.computeIfAbsent(remark.group(1), section -> new ArrayList<>()).add(remark.group(2));
            }
            Check.holds(name + " is run", source.contains("        " + test.group(2) + "();\n"));
        }
        Check.holds(file.getFileName() + " has tests", tests > 0);
    }

    /** The document's text by sections, without its headings, its fences and the methods' signatures. */
    private static Map<String, String> sections(String document) {
        Map<String, String> sections = new LinkedHashMap<>();
        for (String part : document.split("\n## ")) {
            String[] headAndText = part.split("\n", 2);
            String text = headAndText[1].replaceAll("```\\w*", " ").replaceAll("`[^`]*`:", " ");
            sections.put(headAndText[0].replaceAll(":.*", ""), text.replaceAll("\\s+", " "));
        }
        return sections;
    }

    private static void compare(String name, String text, List<String> quotes) {
        boolean[] quoted = new boolean[text.length()];
        for (String quote : quotes) {
            int at = text.indexOf(quote);
            Check.holds("section '" + name + "' says: " + quote, at >= 0);
            for (int place = 0; at >= 0 && place < quote.length(); place++) {
                quoted[at + place] = true;
            }
        }
        StringBuilder rest = new StringBuilder();
        for (int place = 0; place < text.length(); place++) {
            rest.append(quoted[place] ? ' ' : text.charAt(place));
        }
        if (!name.equals("Not promised")) {
            Check.holds("all of section '" + name + "' has a test, not so: " + rest.toString().replaceAll(" +", " "),
                !Pattern.compile("\\w").matcher(rest).find());
        }
    }
}
