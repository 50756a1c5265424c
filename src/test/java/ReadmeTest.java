import java.io.IOException;
import java.nio.file.DirectoryStream;
import java.nio.file.Files;
import java.nio.file.Path;
import java.util.List;
import java.util.Set;
import java.util.TreeSet;
import java.util.regex.Matcher;
import java.util.regex.Pattern;

/** What README.md says: its examples answer so, and its tests are those that there are. */
public final class ReadmeTest {
    private static final Due DUE = new Due();
    private static final String NEW_OBJECT = "SlotScreen x = new SlotScreen();";
    private static final Pattern CALL = Pattern.compile("x\\.(\\w+)\\(([^)]*)\\);\\s*(?://\\s*(.*))?");
    private static final Pattern TEST_ROW = Pattern.compile("\\| `(\\w+Test)` \\|.*");

    public static void main(String[] args) throws IOException {
        List<String> readme = Files.readAllLines(Path.of("README.md"));
        examplesAnswerSo(readme);
        testsAreThose(readme);
        DUE.is(".ci/run can be run", Files.isExecutable(Path.of(".ci/run")), true);
        DUE.end();
    }

    private static void examplesAnswerSo(List<String> readme) {
        SlotScreen x = null;
        boolean inExample = false;
        int compared = 0;
        for (String line : readme) {
            if (line.startsWith("```")) {
                inExample = line.equals("```java");
                x = null;
            } else if (inExample && line.equals(NEW_OBJECT)) {
                x = new SlotScreen();
            } else if (inExample && !line.isBlank()) {
                compared += compare(x, line);
            }
        }
        DUE.is("README.md tells answers", compared > 0, true);
    }

    /** How many answers were compared. */
    private static int compare(SlotScreen x, String line) {
        Matcher m = CALL.matcher(line);
        if (x == null || !m.matches()) {
            DUE.tell("not a call on an object: " + line);
            return 0;
        }
        int answer = new Call(m.group(1), numbers(m.group(2))).on(x);
        String comment = m.group(3) == null ? "" : m.group(3);
        if (!comment.startsWith("-> ")) {
            boolean threw = answer == Call.ARGUMENT_FAULT || answer == Call.STATE_FAULT;
            DUE.is(line + " throws", threw, false);
            return 0;
        }
        DUE.is(line, answer, answerOf(comment.substring(3)));
        return 1;
    }

    private static int[] numbers(String arguments) {
        String[] texts = arguments.isEmpty() ? new String[0] : arguments.split(",");
        int[] numbers = new int[texts.length];
        for (int i = 0; i < texts.length; i++) {
            numbers[i] = sum(texts[i]);
        }
        return numbers;
    }

    /** The examples add, take away and multiply, and nothing more. */
    private static int sum(String text) {
        int sum = 0;
        for (String term : text.replace("-", "+-").replace(" ", "").split("\\+")) {
            int product = 1;
            for (String factor : term.split("\\*")) {
                product *= Integer.parseInt(factor);
            }
            sum += product;
        }
        return sum;
    }

    private static int answerOf(String text) {
        switch (text) {
            case "true":
                return Call.TRUE;
            case "false":
                return Call.FALSE;
            case "NONE":
                return SlotScreen.NONE;
            case "IllegalArgumentException":
                return Call.ARGUMENT_FAULT;
            case "IllegalStateException":
                return Call.STATE_FAULT;
            default:
                return Integer.parseInt(text);
        }
    }

    private static void testsAreThose(List<String> readme) throws IOException {
        Set<String> told = new TreeSet<>();
        for (String line : readme) {
            Matcher m = TEST_ROW.matcher(line);
            if (m.matches()) {
                told.add(m.group(1));
            }
        }
        Set<String> there = new TreeSet<>();
        try (DirectoryStream<Path> files = Files.newDirectoryStream(Path.of("src/test/java"), "*Test.java")) {
            for (Path file : files) {
                there.add(file.getFileName().toString().replace(".java", ""));
            }
        }
        DUE.is("the tests that README.md tells", told.toString(), there.toString());
    }
}
