import java.io.IOException;
import java.lang.reflect.Method;
import java.nio.file.DirectoryStream;
import java.nio.file.Files;
import java.nio.file.Path;
import java.util.ArrayList;
import java.util.List;
import java.util.Map;
import java.util.TreeMap;

/** Every sentence of the document has a test that quotes it, and every quote stands in the document. */
public final class BoundsCoverTest {
    private static final int PROMISES = 38;
    private static final Check check = new Check();

    public static void main(String[] args) throws IOException, ClassNotFoundException {
        Path doc = Path.of("../shared/DOC.md");
        if (!Files.exists(doc)) {
            System.out.println("no " + doc + " to hold the tests against");
            return;
        }
        Map<Integer, String> told = sections(Files.readString(doc));
        check.due("sections with promises", told.size(), PROMISES + 1);
        Map<Integer, boolean[]> covered = new TreeMap<>();
        told.forEach((promise, text) -> covered.put(promise, new boolean[text.length()]));
        for (Method test : tests()) {
            Says says = test.getAnnotation(Says.class);
            check.holds(test.getName() + " is named by its promise", says.promise() == 0
                    || test.getName().startsWith(String.format("p%02d_", says.promise())));
            for (String quote : says.value()) {
                String text = told.getOrDefault(says.promise(), "");
                check.holds(test.getName() + " quotes the document: " + quote, mark(text, quote, covered.get(says.promise())));
            }
        }
        told.forEach((promise, text) -> tellLeft(promise, text, covered.get(promise)));
        check.finish();
    }

    /** By promise what it says, in one line each; 0: what stands ahead of the promises. */
    private static Map<Integer, String> sections(String doc) {
        Map<Integer, String> told = new TreeMap<>();
        for (String section : doc.split("\n## ")) {
            String body = section.substring(section.indexOf('\n') + 1);
            if (section.startsWith("Promise ")) {
                int promise = Integer.parseInt(section.substring(8, section.indexOf(':')));
                told.put(promise, oneLine(body.replaceFirst("^\\s*`[^`]*`:", "")));
            } else if (section.startsWith("What it is") || section.startsWith("Terms")) {
                // The first paragraph and what the interface says ahead of calls ask for nothing.
                String asked = body.replaceAll("(?m)^(The tunnel comes up by intention|Ahead of the calls|```).*$", "");
                told.merge(0, oneLine(asked), (a, b) -> a + " " + b);
            }
        }
        return told;
    }

    private static String oneLine(String text) {
        return text.replaceAll("\\s+", " ").trim();
    }

    private static List<Method> tests() throws IOException, ClassNotFoundException {
        List<Method> tests = new ArrayList<>();
        try (DirectoryStream<Path> files = Files.newDirectoryStream(Path.of("src/test/java"), "Bounds*Test.java")) {
            for (Path file : files) {
                String name = file.getFileName().toString().replace(".java", "");
                for (Method m : Class.forName(name).getDeclaredMethods()) {
                    if (m.isAnnotationPresent(Says.class)) {
                        tests.add(m);
                    }
                }
            }
        }
        return tests;
    }

    private static boolean mark(String text, String quote, boolean[] covered) {
        boolean found = false;
        for (int at = text.indexOf(quote); at >= 0; at = text.indexOf(quote, at + 1)) {
            found = true;
            for (int i = at; i < at + quote.length(); i++) {
                covered[i] = true;
            }
        }
        return found;
    }

    private static void tellLeft(int promise, String text, boolean[] covered) {
        StringBuilder left = new StringBuilder();
        for (int i = 0; i < text.length(); i++) {
            left.append(covered[i] ? '\n' : text.charAt(i));
        }
        for (String words : left.toString().split("\n+")) {
            check.holds("promise " + promise + " has a test of '" + words.trim() + "'", !words.matches(".*[A-Za-z0-9].*"));
        }
    }
}
