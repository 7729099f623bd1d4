import java.io.IOException;
import java.io.UncheckedIOException;
import java.lang.reflect.Method;
import java.nio.file.Files;
import java.nio.file.Path;
import java.util.ArrayList;
import java.util.Arrays;
import java.util.HashMap;
import java.util.List;
import java.util.Map;
import java.util.regex.Matcher;
import java.util.regex.Pattern;
import java.util.stream.Collectors;
import java.util.stream.Stream;

/** README.md says nothing that the class and the document don't: its examples are run, its tables compared. */
public final class ReadmeTest extends Checks {
    private static final String README = read("README.md");
    private static final Pattern EXAMPLE = Pattern.compile("(?s)```java\n(.*?)```");
    /** int name = avenue.call(arguments);  // answer: .. */
    private static final Pattern CALL =
        Pattern.compile("(?:int (\\w+) = )?avenue\\.(\\w+)\\(([^)]*)\\);\\s*// (-?\\d+)(?:: .*)?");
    private static final Pattern ROW = Pattern.compile("(?m)^\\| `(\\w+)\\(([^)]*)\\)` \\| .+ \\| (.*)\\|$");
    private static final Pattern FINDING = Pattern.compile("^(BEYOND|FULL|KIND|NONE|STATE|MISSING|SIZE)\\b");

    public static void main(String[] args) {
        run(ReadmeTest.class);
    }

    private static String read(String file) {
        try {
            return Files.readString(Path.of(file));
        } catch (IOException e) {
            throw new UncheckedIOException(e);
        }
    }

    // ---- the examples

    static void examplesAnswerWhatIsSaid() throws ReflectiveOperationException {
        Matcher m = EXAMPLE.matcher(README);
        int examples = 0;
        while (m.find()) {
            runExample(m.group(1).split("\n"));
            examples++;
        }
        due("examples", examples, 3);
    }

    private static void runExample(String[] lines) throws ReflectiveOperationException {
        due("'" + lines[0] + "' makes one", lines[0].equals("BackAvenue avenue = new BackAvenue();") ? 1 : 0, 1);
        BackAvenue avenue = new BackAvenue();
        Map<String, Integer> names = new HashMap<>();
        for (String line : Arrays.copyOfRange(lines, 1, lines.length)) {
            Matcher call = CALL.matcher(line);
            if (!call.matches()) {
                due("'" + line + "' is no call with its answer", 1, 0);
                continue;
            }
            long answer = answer(avenue, call.group(2), arguments(call.group(3), names));
            due(line, answer, Long.parseLong(call.group(4)));
            names.put(call.group(1), (int) answer);
        }
    }

    private static List<Integer> arguments(String told, Map<String, Integer> names) {
        List<Integer> arguments = new ArrayList<>();
        for (String one : parts(told)) {
            arguments.add(names.containsKey(one) ? names.get(one) : Integer.decode(one));
        }
        return arguments;
    }

    private static long answer(BackAvenue avenue, String call, List<Integer> arguments)
            throws ReflectiveOperationException {
        Method method = methodOf(call);
        Object[] values = arguments.toArray();
        for (int i = 0; i < values.length; i++) {
            if (method.getParameterTypes()[i] == long.class) {
                values[i] = arguments.get(i).longValue();
            }
        }
        return ((Number) method.invoke(avenue, values)).longValue();
    }

    private static Method methodOf(String call) {
        return Arrays.stream(BackAvenue.class.getDeclaredMethods())
            .filter(m -> m.getName().equals(call)).findFirst().orElseThrow();
    }

    // ---- the tables

    /** The promises 2 to 35 are the calls, in the order of the tables. */
    static void tablesHaveEveryCallAndItsFindings() {
        Matcher row = ROW.matcher(README);
        int promise = 2;
        while (row.find()) {
            String call = row.group(1) + "(" + String.join(", ", parts(row.group(2))) + ")";
            due("promise " + promise + " is " + call, call.equals(callOf(promise)) ? 1 : 0, 1);
            due("findings of " + call, parts(row.group(3)).equals(findingsOf(promise)) ? 1 : 0, 1);
            promise++;
        }
        due("the last promise in the tables", promise - 1, Document.LAST_PROMISE);
    }

    private static String callOf(int promise) {
        return Document.call(promise).replaceAll("\\b(int|long) ", "");
    }

    private static List<String> findingsOf(int promise) {
        return Document.sentences(promise).stream()
            .map(FINDING::matcher).filter(Matcher::find).map(Matcher::group).collect(Collectors.toList());
    }

    private static List<String> parts(String told) {
        return told.isBlank() ? List.of() : List.of(told.trim().split(", "));
    }

    static void findingsHaveTheirAnswers() {
        String[] findings = {"BEYOND", "FULL", "KIND", "NONE", "STATE", "MISSING", "SIZE"};
        for (int i = 0; i < findings.length; i++) {
            String row = "| " + findings[i] + " | " + (BEYOND - i) + " |";
            due("a row " + row, README.contains(row) ? 1 : 0, 1);
        }
    }

    static void testsAreAllNamed() throws IOException {
        try (Stream<Path> files = Files.list(Path.of("src/test/java"))) {
            for (Path file : files.toList()) {
                String name = file.getFileName().toString().replace(".java", "");
                boolean isNamed = Pattern.compile("\\b" + name + "\\b").matcher(README).find();
                due(name + " is named", isNamed ? 1 : 0, 1);
            }
        }
    }

    /** The command that README.md tells is there, and can be run. */
    static void theCommandIsThere() {
        due("the command is told", README.contains("\n    .ci/run\n") ? 1 : 0, 1);
        due("it can be run", Files.isExecutable(Path.of(".ci/run")) ? 1 : 0, 1);
    }
}
