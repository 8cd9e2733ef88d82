import java.io.IOException;
import java.net.URL;
import java.net.URLClassLoader;
import java.nio.file.Files;
import java.nio.file.Path;
import java.util.Comparator;
import java.util.HashSet;
import java.util.List;
import java.util.Set;
import java.util.regex.Matcher;
import java.util.regex.Pattern;
import java.util.stream.Stream;

/** The example of README.md: it is compiled as it is printed there, and every answer printed behind a call is due. */
public final class ReadmeTest {
    private static final Check check = new Check();
    private static final Pattern JAVA = Pattern.compile("(?s)```java\n(.*?)```");
    private static final Pattern CALL = Pattern.compile("(tunnel\\.\\w+\\(.*\\));\\s*// (-?\\d+|BAD|STATE|FULL|NONE)\\b.*");
    private static int answers = 0;

    public static void main(String[] args) throws ReflectiveOperationException, IOException, InterruptedException {
        String readme = Files.readString(Path.of("README.md"));
        Path place = Files.createTempDirectory("readme");
        try {
            compileAndRun(program(readme), place);
        } finally {
            remove(place);
        }
        tellsRefusals(readme);
        tellsTests(readme);
        check.finish();
    }

    /** A class whose main method is the example, each printed answer being held. */
    private static String program(String readme) {
        StringBuilder code = new StringBuilder("public final class Example {\n  public static void main(String[] args) {\n");
        Matcher blocks = JAVA.matcher(readme);
        while (blocks.find()) {
            for (String line : blocks.group(1).split("\n")) {
                code.append(held(line)).append('\n');
            }
        }
        return code.append("  }\n}\n").toString();
    }

    private static String held(String line) {
        Matcher call = CALL.matcher(line.strip());
        if (call.matches()) {
            answers++;
            String due = call.group(2).matches("[A-Z]+") ? "AimTunnel." + call.group(2) : call.group(2);
            return "ReadmeTest.due(\"" + call.group(1) + "\", " + call.group(1) + ", " + due + ");";
        }
        check.holds("only calls in loops have no answer: " + line, !line.startsWith("tunnel"));
        return line;
    }

    public static void due(String call, long got, long want) {
        check.due(call, got, want);
        answers--;
    }

    private static void compileAndRun(String program, Path place)
            throws ReflectiveOperationException, IOException, InterruptedException {
        Path source = Files.writeString(place.resolve("Example.java"), program);
        String classes = System.getProperty("java.class.path");
        int failed = new ProcessBuilder("javac", "-cp", classes, "-d", place.toString(), source.toString()).inheritIO().start().waitFor();
        check.due("the example compiles", failed, 0);
        if (failed != 0) {
            return;
        }
        check.holds("the example has answers", answers > 0);
        try (URLClassLoader loader = new URLClassLoader(new URL[] {place.toUri().toURL()}, ReadmeTest.class.getClassLoader())) {
            loader.loadClass("Example").getMethod("main", String[].class).invoke(null, (Object) new String[0]);
        }
        check.due("answers that were not held", answers, 0);
    }

    private static void remove(Path place) throws IOException {
        List<Path> all;
        try (Stream<Path> found = Files.walk(place)) {
            all = found.sorted(Comparator.reverseOrder()).toList();
        }
        for (Path one : all) {
            Files.delete(one);
        }
    }

    private static void tellsRefusals(String readme) {
        int[] answer = {AimTunnel.BAD, AimTunnel.STATE, AimTunnel.FULL, AimTunnel.NONE};
        String[] name = {"BAD", "STATE", "FULL", "NONE"};
        for (int i = 0; i < name.length; i++) {
            check.holds("README.md says what " + name[i] + " means", readme.contains("| `" + name[i] + "` | " + answer[i] + " |"));
            check.holds("the example has " + name[i], Pattern.compile("(?m)^tunnel.*// " + name[i] + "\\b").matcher(readme).find());
        }
    }

    private static void tellsTests(String readme) throws IOException {
        Set<String> told = new HashSet<>();
        Matcher names = Pattern.compile("(?m)^\\| `(\\w+Test)` \\|").matcher(readme);
        while (names.find()) {
            told.add(names.group(1) + ".java");
        }
        Set<String> there = new HashSet<>();
        try (Stream<Path> files = Files.list(Path.of("src/test/java"))) {
            files.map(f -> f.getFileName().toString()).filter(f -> f.endsWith("Test.java")).forEach(there::add);
        }
        check.holds("README.md tells the tests that there are: " + told, told.equals(there));
    }
}
