import java.io.ByteArrayOutputStream;
import java.io.PrintStream;
import java.nio.charset.StandardCharsets;
import java.nio.file.Files;
import java.nio.file.Path;
import java.util.Set;
import java.util.TreeSet;
import java.util.regex.Matcher;
import java.util.regex.Pattern;
import java.util.stream.Collectors;
import java.util.stream.Stream;

/** That README.md says what the class and .ci/run do. Run from the project's root. */
public final class ReadmeTest {
    public static void main(String[] args) throws Exception {
        String readme = Files.readString(Path.of("README.md"));
        Check.due("README.md shows Example.java",
                block(readme, "java").equals(Files.readString(Path.of("src/test/java/Example.java"))), true);
        String printed = printedByExample();
        Check.due("README.md shows what Example prints: " + printed, block(readme, "text").equals(printed), true);
        Check.due("README.md tells of .ci/run", block(readme, "sh").equals(".ci/run\n"), true);
        Check.due(".ci/run can be run", Files.isExecutable(Path.of(".ci/run")), true);
        Set<String> told = testsToldIn(readme);
        Set<String> there = testsThere();
        Check.due("README.md tells of " + told + ", there are " + there, told.equals(there), true);
        Check.end("ReadmeTest");
    }

    private static String block(String readme, String language) {
        Matcher matcher = Pattern.compile("(?s)```" + language + "\n(.*?)```").matcher(readme);
        return matcher.find() ? matcher.group(1) : "";
    }

    private static String printedByExample() {
        PrintStream before = System.out;
        ByteArrayOutputStream bytes = new ByteArrayOutputStream();
        System.setOut(new PrintStream(bytes, true, StandardCharsets.UTF_8));
        Example.main(new String[0]);
        System.setOut(before);
        return bytes.toString(StandardCharsets.UTF_8).replace("\r\n", "\n");
    }

    private static Set<String> testsToldIn(String readme) {
        Set<String> names = new TreeSet<>();
        Matcher matcher = Pattern.compile("(?m)^- `(\\w+Test)`:").matcher(readme);
        while (matcher.find()) {
            names.add(matcher.group(1));
        }
        return names;
    }

    private static Set<String> testsThere() throws Exception {
        try (Stream<Path> files = Files.list(Path.of("src/test/java"))) {
            return files.map(file -> file.getFileName().toString()).filter(name -> name.endsWith("Test.java"))
                    .map(name -> name.replace(".java", "")).collect(Collectors.toCollection(TreeSet::new));
        }
    }
}
