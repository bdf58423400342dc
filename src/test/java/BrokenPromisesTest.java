import java.io.IOException;
import java.io.OutputStream;
import java.io.PrintStream;
import java.net.URISyntaxException;
import java.nio.file.Files;
import java.nio.file.Path;
import java.util.ArrayList;
import java.util.List;
import java.util.Map;
import java.util.Set;
import java.util.TreeSet;
import java.util.concurrent.ExecutionException;
import java.util.concurrent.ExecutorService;
import java.util.concurrent.Executors;
import java.util.concurrent.Future;
import java.util.concurrent.TimeUnit;
import java.util.concurrent.TimeoutException;

/**
 * Each promise has a test that fails if it is broken: the program is broken in one place (Breaks), and the tests are run
 * with it, until one fails. With the word 'all' it is broken in many more places; that takes some minutes.
 */
public final class BrokenPromisesTest {
    private static final Path SOURCE = Path.of("src/main/java/LateClaims.java");
    private static final int MOST_SECONDS = 120;
    private static final String NO_JAVA = "javac";
    /** Named as classes, so that javac has them beside this one. */
    private static final List<Class<?>> TESTS = List.of(PortsTest.class, LegsTest.class, TravellersTest.class, LawsTest.class,
        ClaimsTest.class, PayersTest.class, CasesTest.class, CountTest.class, NothingYetTest.class, NoRoomTest.class,
        EdgesOfPortsTest.class, EdgesOfLegsTest.class, EdgesOfTravellersTest.class, EdgesOfLawsTest.class,
        EdgesOfClaimsTest.class, EdgesOfCasesTest.class);
    /** What changes no answer, with why. */
    private static final Map<String, String> FREE = Map.of(
        "<init>: today = 0;", "it is 0 anyway",
        "claim: claims.isFull()", "20 travellers with one CLAIM each never come to 30",
        "claim: refuse(ROOM)", "20 travellers with one CLAIM each never come to 30",
        "Claims.MOST: 30", "20 travellers with one CLAIM each never come to 30",
        "leg: leave > LAST_PLANNED", "to arrive is above to leave, and looked at too",
        "stop: from > LAST_DAY", "the DAY up to which it is is not ahead of it, and looked at too");

    private final String program;
    private final Path classes;

    private BrokenPromisesTest(String program, Path classes) {
        this.program = program;
        this.classes = classes;
    }

    public static void main(String[] args) throws IOException, URISyntaxException, InterruptedException {
        Due due = new Due();
        Path classes = Path.of(BrokenPromisesTest.class.getProtectionDomain().getCodeSource().getLocation().toURI());
        String program = Files.readString(SOURCE);
        List<Break> breaks = new ArrayList<>();
        for (Break each : Breaks.of(SOURCE, program, args.length > 0)) {
            if (!FREE.containsKey(each.method() + ": " + program.substring(each.from(), each.to()))) breaks.add(each);
        }
        new BrokenPromisesTest(program, classes).run(due, breaks);
        due.end();
    }

    private void run(Due due, List<Break> breaks) throws IOException, InterruptedException {
        Set<String> broken = new TreeSet<>();
        List<Future<String>> finds = new ArrayList<>();
        ExecutorService threads = Executors.newFixedThreadPool(Runtime.getRuntime().availableProcessors(), BrokenPromisesTest::daemon);
        PrintStream out = System.out;
        System.setOut(new PrintStream(OutputStream.nullOutputStream()));
        finds.add(threads.submit(() -> finder(program)));
        for (Break each : breaks) finds.add(threads.submit(() -> finder(each.in(program))));
        List<String> by = new ArrayList<>();
        for (Future<String> find : finds) by.add(answer(find));
        System.setOut(out);
        due.holds("unbroken it passes, and not: " + by.get(0), by.get(0).isEmpty());
        for (int i = 0; i < breaks.size(); i++) {
            due.holds("a test finds " + breaks.get(i).told(program), !by.get(i + 1).isEmpty());
            if (!by.get(i + 1).equals(NO_JAVA)) broken.add(breaks.get(i).method());
        }
        due.holds("a new object was broken", broken.contains("<init>"));
        for (Document.Promise promise : Document.promises()) {
            due.holds(promise.name() + " was broken", broken.contains(promise.name()));
        }
    }

    private static Thread daemon(Runnable work) {
        Thread thread = new Thread(work);
        // One that does not come to an end must not keep Java from ending.
        thread.setDaemon(true);
        return thread;
    }

    private static String answer(Future<String> find) throws InterruptedException {
        try {
            return find.get(MOST_SECONDS, TimeUnit.SECONDS);
        } catch (TimeoutException e) {
            return "no end";
        } catch (ExecutionException e) {
            throw new IllegalStateException(e.getCause());
        }
    }

    /** The first test that fails; "" if none does. */
    private String finder(String text) throws IOException, ReflectiveOperationException {
        Program broken = Program.of(text, classes);
        if (broken == null) return NO_JAVA;
        for (Class<?> test : TESTS) {
            if (!broken.passes(test.getName())) return test.getName();
        }
        return "";
    }
}
