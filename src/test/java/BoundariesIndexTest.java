import java.io.IOException;
import java.nio.file.Files;
import java.nio.file.Path;
import java.util.List;
import java.util.Map;
import java.util.TreeMap;
import java.util.regex.Matcher;
import java.util.regex.Pattern;
import java.util.stream.Collectors;
import java.util.stream.Stream;

/** BOUNDARIES.md quotes what the document says and names tests that are there, and every test is run. */
final class BoundariesIndexTest {
    private static final Pattern TEST_METHOD = Pattern.compile("private static void (\\w+)\\(\\) *(throws \\w+ )?\\{");

    private static String oneLine(String text) {
        return text.replaceAll("\\s+", " ");
    }

    private static Map<String, String> testsByName(Path folder) throws IOException {
        Map<String, String> tests = new TreeMap<>();
        List<Path> files;
        try (Stream<Path> list = Files.list(folder)) {
            files = list.filter(file -> file.toString().endsWith("Test.java")).collect(Collectors.toList());
        }
        for (Path file : files) {
            tests.put(file.getFileName().toString().replace(".java", ""), Files.readString(file));
        }
        return tests;
    }

    private static String mainOf(String text) {
        int start = text.indexOf("public static void main(");
        return start < 0 ? "" : text.substring(start);
    }

    private static void everyTestIsRun(Map<String, String> tests) {
        tests.forEach((name, text) -> {
            Matcher found = TEST_METHOD.matcher(text);
            while (found.find()) {
                Check.yes(name + " runs " + found.group(1), mainOf(text).contains(" " + found.group(1) + "();"));
            }
        });
    }

    private static void quotesAndTestsAreThere(List<String> lines, String document, Map<String, String> tests) {
        int testsOfQuote = 1;
        int place = 0;
        for (String line : lines) {
            if (line.startsWith("> ")) {
                Check.yes("the quote before this has a test: " + line, testsOfQuote > 0);
                testsOfQuote = 0;
                int found = document.indexOf(oneLine(line.substring(2)), place);
                Check.yes("the document says, in this order: " + line, found >= 0);
                place = Math.max(place, found);
            } else if (line.startsWith("- ")) {
                testsOfQuote++;
                String[] parts = line.substring(2).split("\\.");
                String text = tests.getOrDefault(parts[0], "");
                Check.yes("there is a test " + line, mainOf(text).contains(" " + parts[1] + "();"));
            }
        }
        Check.yes("the last quote has a test", testsOfQuote > 0);
    }

    public static void main(String[] args) throws IOException {
        Path root = Path.of(System.getProperty("project", "."));
        Map<String, String> tests = testsByName(root.resolve("src/test/java"));
        everyTestIsRun(tests);
        String document = oneLine(Files.readString(root.resolve("../shared/DOC.md")));
        quotesAndTestsAreThere(Files.readAllLines(root.resolve("src/test/BOUNDARIES.md")), document, tests);
        Check.end();
    }
}
