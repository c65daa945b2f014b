import java.lang.reflect.Method;
import java.lang.reflect.Modifier;
import java.nio.file.Files;
import java.nio.file.Path;
import java.util.ArrayList;
import java.util.List;
import java.util.regex.Matcher;
import java.util.regex.Pattern;
import java.util.stream.Stream;

/** What README.md says of using the class and of running a test, done as it stands there: started where README.md lies. */
public final class ReadmeTest extends Checks {
    private static final Pattern ANSWERED = Pattern.compile("(x\\.\\w+\\(.*?\\)); +// (-?\\d+|BAD|NO|FULL|NONE)\\b.*");

    public static void main(String[] arguments) throws Exception {
        List<String> page = Files.readAllLines(Path.of("README.md"));
        due("the example of README.md ends by", runExample(between(page, "```java", "```")), 0);
        due("the commands of README.md end by", exitCode(commands(page)), 0);
        callsAndTestsAreTold(String.join("\n", page));
        end("README.md");
    }

    /** The lines from one to another, without these. */
    private static List<String> between(List<String> page, String first, String last) {
        int start = page.indexOf(first) + 1;
        return page.subList(start, start + page.subList(start, page.size()).indexOf(last));
    }

    private static int runExample(List<String> example) throws Exception {
        Path folder = Files.createTempDirectory("readme");
        Path file = folder.resolve("Example.java");
        Files.writeString(file, asTest(example));
        String classes = System.getProperty("java.class.path");
        int code = exitCode("javac -cp " + classes + " -d " + folder + " " + file
            + " && java -cp " + classes + ":" + folder + " Example");
        exitCode("rm -r " + folder);
        return code;
    }

    /** The example as a program in which each line that tells an answer asks for it. */
    private static String asTest(List<String> example) {
        StringBuilder program = new StringBuilder();
        program.append("public final class Example extends Checks { public static void main(String[] a) {\n");
        int asked = 0;
        for (String line : example) {
            Matcher answered = ANSWERED.matcher(line);
            due("a call on the page tells its answer: " + line, line.startsWith("x.") == answered.matches() ? 1 : 0, 1);
            if (answered.matches()) {
                asked++;
                program.append(asCheck(answered.group(1), answered.group(2)));
            } else {
                program.append(line).append('\n');
            }
        }
        due("an example is there", asked > 0 ? 1 : 0, 1);
        return program.append("end(\"the example of README.md\"); } }\n").toString();
    }

    private static String asCheck(String call, String answer) {
        String want = answer.matches("-?\\d+") ? answer : "TurnedTablets." + answer;
        return "due(\"" + call + " in README.md\", " + call + ", " + want + ");\n";
    }

    /** All commands that stand on the page, one behind the other, but the one by which this test is run itself. */
    private static String commands(List<String> page) {
        List<String> found = new ArrayList<>();
        for (String line : page) {
            if (line.startsWith("    javac ") || line.startsWith("    java ")) {
                found.add(line.trim());
            }
        }
        due("commands of README.md", found.size(), 2);
        due("README.md tells of .ci/run", page.contains("    bash .ci/run") ? 1 : 0, 1);
        return String.join(" && ", found);
    }

    private static int exitCode(String command) throws Exception {
        return new ProcessBuilder("bash", "-c", command).inheritIO().start().waitFor();
    }

    private static void callsAndTestsAreTold(String page) throws Exception {
        for (Method call : TurnedTablets.class.getDeclaredMethods()) {
            if (Modifier.isPublic(call.getModifiers())) {
                due("README.md tells of " + call.getName(), page.contains("`" + call.getName() + "`") ? 1 : 0, 1);
            }
        }
        try (Stream<Path> files = Files.list(Path.of("tests"))) {
            files.forEach(file -> due("README.md tells of " + file, page.contains("`" + file + "`") ? 1 : 0, 1));
        }
    }
}
