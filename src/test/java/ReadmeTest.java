import java.io.IOException;
import java.nio.file.DirectoryStream;
import java.nio.file.Files;
import java.nio.file.Path;
import java.util.ArrayList;
import java.util.List;
import java.util.Set;
import java.util.TreeSet;
import java.util.regex.Matcher;
import java.util.regex.Pattern;

/** What README.md says is so: its example, its rows of calls and of refusals, and the tests that it names. */
public final class ReadmeTest {
    private static final Path README = Path.of("README.md");
    private static final Path TESTS = Path.of("src/test/java");
    private static final Pattern EXAMPLE = Pattern.compile("(?s)```java\n(.*?)```");
    private static final Pattern STEP = Pattern.compile("x\\.(\\w+)\\((.*?)\\);\\s+// (-?[0-9]+): .*");
    private static final Pattern CALL_ROW = Pattern.compile("\\| `(\\w+\\(.*?\\))` \\| .* \\|((?: -[0-9])*) \\|");
    private static final Pattern REFUSAL_ROW = Pattern.compile("\\| (-[0-9]) \\| .* \\| `count\\(([0-9]+)\\)` \\|");
    private static final Pattern NAME = Pattern.compile("`([A-Z]\\w+)`");

    public static void main(String[] args) throws IOException {
        Due due = new Due();
        String text = Files.readString(README);
        example(due, text);
        calls(due, text);
        refusals(due, text);
        tests(due, text);
        due.end();
    }

    private static void example(Due due, String text) {
        Matcher block = EXAMPLE.matcher(text);
        due.holds("there is an example", block.find());
        String[] steps = block.group(1).split("\n");
        due.holds("it makes an object", steps[0].equals("LateClaims x = new LateClaims();"));
        LateClaims x = new LateClaims();
        for (int i = 1; i < steps.length; i++) {
            Matcher step = STEP.matcher(steps[i]);
            due.holds("a call with its answer: " + steps[i], step.matches());
            Call call = Call.of(step.group(1) + " " + step.group(2).replace(",", ""));
            due.is("the example's " + call, call.on(x), Integer.parseInt(step.group(3)));
        }
    }

    private static void calls(Due due, String text) throws IOException {
        List<String> rows = new ArrayList<>();
        Matcher row = CALL_ROW.matcher(text);
        while (row.find()) rows.add(row.group(1) + row.group(2));
        List<String> told = new ArrayList<>();
        for (Document.Promise promise : Document.promises()) {
            StringBuilder words = new StringBuilder(promise.call());
            for (int number : promise.refusals()) words.append(' ').append(number);
            told.add(words.toString());
        }
        due.holds("the rows of calls are " + told + ", not " + rows, rows.equals(told));
        due.is("calls of the face", Call.face().size(), rows.size());
    }

    /** One call for each number, with the count that README.md names for it. */
    private static void refusals(Due due, String text) {
        List<Line> refused = Line.of("""
            traveller 1 = -1
            set 4 1 = -2
            claim 0 = -3
            days -1 = -4
            legOf 0 0 = -5
            days 4001 = -6
            """);
        Matcher row = REFUSAL_ROW.matcher(text);
        for (Line line : refused) {
            due.holds("a row for " + line.due, row.find());
            due.is("the row of " + line.due, Integer.parseInt(row.group(1)), line.due);
            LateClaims x = new LateClaims();
            for (String call : List.of("leg 0 1 0 0 100 200", "traveller 0", "claim 0")) Call.of(call).on(x);
            due.is(line.call.toString(), line.call.on(x), line.due);
            due.is(line.call + ", then count " + row.group(2), x.count(Integer.parseInt(row.group(2))), 1);
        }
        due.holds("no other row of refusals", !row.find());
    }

    private static void tests(Due due, String text) throws IOException {
        Set<String> named = new TreeSet<>();
        Matcher name = NAME.matcher(text.substring(text.indexOf("## Tests")));
        while (name.find()) named.add(name.group(1));
        Set<String> there = new TreeSet<>();
        try (DirectoryStream<Path> files = Files.newDirectoryStream(TESTS, "*Test.java")) {
            for (Path file : files) there.add(file.getFileName().toString().replace(".java", ""));
        }
        for (String test : there) due.holds(test + " is named", named.contains(test));
        for (String each : named) due.holds(each + " is there", Files.exists(TESTS.resolve(each + ".java")));
        due.holds(".ci/run is there to be run", Files.isExecutable(Path.of(".ci/run")));
    }
}
