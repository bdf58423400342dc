import java.io.IOException;
import java.nio.file.DirectoryStream;
import java.nio.file.Files;
import java.nio.file.Path;
import java.util.Map;
import java.util.Set;
import java.util.TreeMap;
import java.util.TreeSet;
import java.util.regex.Matcher;
import java.util.regex.Pattern;

/** The tests of edges have each number with which the document says that a call is refused, and no other. */
public final class DocumentTest {
    private static final Path TESTS = Path.of("src/test/java");
    private static final Pattern LINE = Pattern.compile("(?m)^ +(\\w+)(?: (?:-?[0-9]+|true|false))* = (-[1-6]|100000000[1-6])(?![0-9])");

    public static void main(String[] args) throws IOException {
        Due due = new Due();
        Map<String, Set<Integer>> tested = tested();
        due.is("promises but for the first one", Document.promises().size(), 35);
        for (Document.Promise promise : Document.promises()) {
            Set<Integer> told = new TreeSet<>(promise.refusals());
            // 20 travellers with one CLAIM each never come to 30.
            if (promise.name().equals("claim")) told.remove(-6);
            Set<Integer> found = tested.getOrDefault(promise.name(), Set.of());
            due.holds(promise.call() + " is refused with " + told + ", but tested with " + found, told.equals(found));
        }
        due.end();
    }

    private static Map<String, Set<Integer>> tested() throws IOException {
        Map<String, Set<Integer>> tested = new TreeMap<>();
        try (DirectoryStream<Path> files = Files.newDirectoryStream(TESTS, "{EdgesOf,NoRoom,NothingYet}*.java")) {
            for (Path file : files) {
                for (String block : Files.readString(file).split("\\.refuses\\(\"\"\"")) {
                    Matcher line = LINE.matcher(block.split("\"\"\"", 2)[0]);
                    while (line.find()) {
                        int due = Integer.parseInt(line.group(2));
                        int number = due > 0 ? 1000000000 - due : due;
                        tested.computeIfAbsent(line.group(1), n -> new TreeSet<>()).add(number);
                    }
                }
            }
        }
        return tested;
    }
}
