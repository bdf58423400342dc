import java.io.IOException;
import java.nio.file.Files;
import java.nio.file.Path;
import java.util.ArrayList;
import java.util.LinkedHashSet;
import java.util.List;
import java.util.Set;
import java.util.regex.Matcher;
import java.util.regex.Pattern;

/** What can be read off the document by its form: the promises of calls, and the numbers with which each is refused. */
final class Document {
    private static final Path TEXT = Path.of("../shared/DOC.md");
    private static final Pattern PROMISE = Pattern.compile("`int (\\w+)\\((.*?)\\)`: (.*)");
    private static final Pattern REFUSAL = Pattern.compile("-([1-6])(?![0-9])");

    /** A call with the numbers of its REFUSALS, in the order in which they fit. */
    record Promise(String name, String call, Set<Integer> refusals) { }

    private Document() { }

    static List<String> lines() throws IOException {
        return Files.readAllLines(TEXT);
    }

    static List<Promise> promises() throws IOException {
        List<Promise> promises = new ArrayList<>();
        for (String line : lines()) {
            Matcher promise = PROMISE.matcher(line);
            if (!promise.matches()) continue;
            String name = promise.group(1);
            String call = name + "(" + promise.group(2).replaceAll("(int|boolean) ", "") + ")";
            promises.add(new Promise(name, call, refusalsIn(name, promise.group(3))));
        }
        return promises;
    }

    private static Set<Integer> refusalsIn(String name, String words) {
        Set<Integer> numbers = new LinkedHashSet<>();
        // It tells of the REFUSALS of others, and is not refused itself.
        if (name.equals("count")) return numbers;
        Matcher refusal = REFUSAL.matcher(words);
        while (refusal.find()) numbers.add(-Integer.parseInt(refusal.group(1)));
        return numbers;
    }
}
