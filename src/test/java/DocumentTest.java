import java.io.IOException;
import java.nio.file.DirectoryStream;
import java.nio.file.Files;
import java.nio.file.Path;
import java.util.Map;
import java.util.Set;
import java.util.TreeMap;
import java.util.TreeSet;
import java.util.regex.Matcher;
import java.util.regex.Pattern;

/** Reads off the document which numbers each call is refused with: the tests of edges have each of them, and no other. */
public final class DocumentTest {
    private static final Path DOCUMENT = Path.of("../shared/DOC.md");
    private static final Path TESTS = Path.of("src/test/java");
    private static final Pattern PROMISE = Pattern.compile("`int (\\w+)\\(.*?\\)`: (.*)");
    private static final Pattern REFUSAL = Pattern.compile("-([1-6])(?![0-9])");
    private static final Pattern LINE = Pattern.compile("(?m)^ +(\\w+)(?: (?:-?[0-9]+|true|false))* = (-[1-6]|100000000[1-6])(?![0-9])");

    public static void main(String[] args) throws IOException {
        Due due = new Due();
        Map<String, Set<Integer>> told = told();
        Map<String, Set<Integer>> tested = tested();
        due.is("promises but for the first one", told.size(), 35);
        for (String name : told.keySet()) {
            Set<Integer> found = tested.getOrDefault(name, Set.of());
            due.holds(name + " is refused with " + told.get(name) + ", but tested with " + found, told.get(name).equals(found));
        }
        due.end();
    }

    private static Map<String, Set<Integer>> told() throws IOException {
        Map<String, Set<Integer>> told = new TreeMap<>();
        for (String row : Files.readAllLines(DOCUMENT)) {
            Matcher promise = PROMISE.matcher(row);
            if (!promise.matches()) continue;
            Set<Integer> numbers = new TreeSet<>();
            Matcher refusal = REFUSAL.matcher(promise.group(2));
            while (refusal.find()) numbers.add(-Integer.parseInt(refusal.group(1)));
            told.put(promise.group(1), numbers);
        }
        // It tells of the REFUSALS of others, and is not refused itself.
        told.put("count", Set.of());
        // 20 travellers with one CLAIM each never come to 30.
        told.get("claim").remove(-6);
        return told;
    }

    private static Map<String, Set<Integer>> tested() throws IOException {
        Map<String, Set<Integer>> tested = new TreeMap<>();
        try (DirectoryStream<Path> files = Files.newDirectoryStream(TESTS, "{EdgesOf,NoRoom,NothingYet}*.java")) {
            for (Path file : files) {
                for (String block : Files.readString(file).split("\\.refuses\\(\"\"\"")) {
                    Matcher line = LINE.matcher(block.split("\"\"\"", 2)[0]);
                    while (line.find()) {
                        int due = Integer.parseInt(line.group(2));
                        int number = due > 0 ? 1000000000 - due : due;
                        tested.computeIfAbsent(line.group(1), n -> new TreeSet<>()).add(number);
                    }
                }
            }
        }
        return tested;
    }
}
