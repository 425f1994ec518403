import java.io.IOException;
import java.lang.reflect.Method;
import java.lang.reflect.Modifier;
import java.nio.file.Files;
import java.nio.file.Path;
import java.util.ArrayList;
import java.util.List;
import java.util.regex.Matcher;
import java.util.regex.Pattern;

/** What README.md shows is what one gets: its examples are run, and so are the commands that it names. */
final class ReadmeTest {
    private static final Pattern CALL_WITH_ANSWER =
        Pattern.compile("(x\\.\\w+\\(.*\\)); *// (-?\\d+|true|false)\\b.*");
    private static final String CI = ".ci/run";

    private static List<String> blocks(String readme, String kind) {
        List<String> found = new ArrayList<>();
        Matcher block = Pattern.compile("```" + kind + "\n(.*?)```", Pattern.DOTALL).matcher(readme);
        while (block.find()) {
            found.add(block.group(1));
        }
        return found;
    }

    /** A line that tells an answer becomes a check of it. */
    private static String asChecks(String example) {
        StringBuilder text = new StringBuilder("{\n");
        for (String line : example.split("\n")) {
            Matcher call = CALL_WITH_ANSWER.matcher(line);
            if (call.matches()) {
                String told = call.group(1).replace("\"", "\\\"");
                text.append("due(\"").append(told).append("\", ").append(call.group(2)).append(", ")
                    .append(call.group(1)).append(");\n");
            } else {
                text.append(line).append('\n');
            }
        }
        return text.append("}\n").toString();
    }

    private static String program(List<String> examples) {
        StringBuilder text = new StringBuilder("final class Examples {\n"
            + "static void due(String call, Object due, Object got) {\n"
            + "if (!due.equals(got)) { throw new RuntimeException(call + \" answered \" + got); }\n"
            + "}\n"
            + "public static void main(String[] args) {\n");
        for (String example : examples) {
            text.append(asChecks(example));
        }
        return text.append("}\n}\n").toString();
    }

    /** What the commands leave behind goes to a folder of their own, which is taken away. */
    private static int runInShell(Path folder, Path forFiles, String commands)
            throws IOException, InterruptedException {
        ProcessBuilder shell = new ProcessBuilder("sh", "-e", "-c", commands).directory(folder.toFile()).inheritIO();
        shell.environment().put("TMPDIR", forFiles.toString());
        return shell.start().waitFor();
    }

    private static void examples(Path root, Path forFiles, String readme) throws IOException, InterruptedException {
        List<String> examples = blocks(readme, "java");
        Check.yes("there are examples", examples.size() > 0);
        Files.writeString(forFiles.resolve("Examples.java"), program(examples));
        Files.copy(root.resolve("src/main/java/VotedTriple.java"), forFiles.resolve("VotedTriple.java"));
        Check.same("the examples", 0, runInShell(forFiles, forFiles, "javac *.java\njava -cp . Examples"));
    }

    /** .ci/run itself is what runs this test, so it is only looked whether it can be run as told. */
    private static void commands(Path root, Path forFiles, String readme) throws IOException, InterruptedException {
        boolean namesCi = false;
        for (String commands : blocks(readme, "sh")) {
            if (commands.strip().equals(CI)) {
                namesCi = true;
                Check.yes(CI + " can be run", Files.isExecutable(root.resolve(CI)));
            } else {
                Check.same("the exit code of " + commands, 0, runInShell(root, forFiles, commands));
            }
        }
        Check.yes("it names " + CI, namesCi);
    }

    private static void everyCallIsTold(String readme) {
        for (Method method : VotedTriple.class.getDeclaredMethods()) {
            if (Modifier.isPublic(method.getModifiers())) {
                Check.yes(method.getName() + " stands in the table", readme.contains("`" + method.getName() + "("));
            }
        }
    }

    public static void main(String[] args) throws IOException, InterruptedException {
        Path root = Path.of(System.getProperty("project", ".")).toAbsolutePath();
        String readme = Files.readString(root.resolve("README.md"));
        Path forFiles = Files.createTempDirectory("readme");
        examples(root, forFiles, readme);
        commands(root, forFiles, readme);
        everyCallIsTold(readme);
        runInShell(root, root, "rm -r '" + forFiles + "'");
        Check.end();
    }
}
