import java.lang.reflect.Method;
import java.util.ArrayList;
import java.util.List;
import java.util.Map;

/**
 * A new object, a busy one and a full one: all that they answer must be what the Model answers, and so must every call
 * with every two of its numbers at their edges at once, and how many REFUSALS of each kind there were then.
 */
public final class EdgeSweepTest {
    private static final int LEAST = Integer.MIN_VALUE;
    private static final int MOST = Integer.MAX_VALUE;
    private static final int[] PORT = {LEAST, -1, 0, 1, 9, 10, MOST};
    private static final int[] LAND = {LEAST, -1, 0, 1, 3, 4, MOST};
    private static final int[] SIX = {LEAST, -1, 0, 4, 5, 6, MOST};
    private static final int[] PAYER = {LEAST, -1, 0, 2, 4, 5, MOST};
    private static final int[] LEG = {LEAST, -1, 0, 1, 2, 4, 5, 6, 39, 40, MOST};
    private static final int[] TRAVELLER = {LEAST, -1, 0, 1, 3, 4, 19, 20, MOST};
    private static final int[] CLAIM = {LEAST, -1, 0, 2, 3, 19, 20, MOST};
    private static final int[] DAY = {LEAST, -1, 0, 1, 11, 12, 13, 3988, 3989, 4000, 4001, MOST};
    private static final int[] PLANNED = {LEAST, -1, 0, 1, 1800, 1801, 19999, 20000, 20001, MOST};
    private static final int[] LOGGED = {LEAST, -1, 0, 1, 1519, 1520, 30000, 30001, MOST};
    private static final int[] SUM = {LEAST, -1, 0, 1, 9, 10, 100, 9998, 9999, 10000, MOST};
    private static final int[] TWO = {0, 1};

    /** The kinds of a call's numbers in their order, and one call of each that is taken on the busy object. */
    private static final Map<String, int[][]> EDGES = Map.ofEntries(
        edges("days", DAY), edges("land", PORT, LAND), edges("miles", PORT, PORT, SUM),
        edges("seen", PORT, PORT, new int[] {LEAST, -601, -600, -20, 0, 20, 21, 600, 601, MOST}), edges("off", PORT),
        edges("leg", PORT, PORT, SIX, SIX, PLANNED, PLANNED), edges("log", LEG, LOGGED, LOGGED), edges("cause", LEG, SIX),
        edges("set", new int[] {LEAST, -1, 0, 1, 2, 3, 4, MOST},
            new int[] {LEAST, -1, 0, 1, 9, 10, 200, 201, 300, 301, 900, 901, MOST}),
        edges("legOf", LEG, SIX), edges("ahead", LEG, TWO), edges("minutes", LEG, SIX), edges("saved", LEG, LOGGED),
        edges("traveller", LEG), edges("then", TRAVELLER, LEG), edges("missed", TRAVELLER), edges("soonest", TRAVELLER),
        edges("hours", TRAVELLER), edges("blame", TRAVELLER), edges("law", LAND, DAY, SUM, SUM, SUM),
        edges("excuse", LAND, SIX, DAY, TWO), edges("sum", TRAVELLER, DAY, new int[] {LEAST, -1, 0, 1, 2, 3, MOST}),
        edges("bar", LAND, new int[] {LEAST, -1, 0, 1, 2, 2999, 3000, 3001, MOST}), edges("stop", LAND, DAY, DAY),
        edges("claim", TRAVELLER), edges("claimOf", CLAIM, SIX), edges("owes", PAYER, TRAVELLER, SUM),
        edges("pay", CLAIM, PAYER, SUM), edges("due", CLAIM, PAYER), edges("balance", PAYER), edges("back"),
        edges("judged", LAND, SIX, SUM, SUM, TWO, SUM), edges("odds", CLAIM, new int[] {LEAST, -1, 0, 1, 2, 3, MOST}),
        edges("good", CLAIM, SUM),
        edges("count", new int[] {LEAST, LEAST + 10, -1, 0, 1, 2, 3, 4, 5, 6, 7, 8, 9, 10, 11, 12, 13, 14, 15, 16, 17, 26, MOST}));

    private final Due due;

    private EdgeSweepTest(Due due) {
        this.due = due;
    }

    private static Map.Entry<String, int[][]> edges(String name, int[]... of) {
        return Map.entry(name, of);
    }

    public static void main(String[] args) {
        Due due = new Due();
        EdgeSweepTest test = new EdgeSweepTest(due);
        due.is("calls of the face", Call.face().size(), EDGES.size());
        test.sweep("new", "");
        test.sweep("busy", Scenes.BUSY);
        test.sweep("full", Scenes.full());
        due.end();
    }

    private void sweep(String title, String lines) {
        List<Call> run = new ArrayList<>();
        for (Line line : Line.of(lines)) run.add(line.call);
        everything(title, run);
        for (Method m : Call.face()) {
            int[][] edges = EDGES.get(m.getName());
            if (edges.length == 0) ask(title, run, Call.of(m, new int[0]));
            for (int i = 0; i < edges.length; i++) {
                for (int j = i; j < edges.length; j++) pairs(title, run, m, i, j);
            }
        }
    }

    private void everything(String title, List<Call> run) {
        LateClaims before = new LateClaims();
        for (Call call : run) call.on(before);
        for (List<Call> row : new Everything(before).inRowsOf(512 - run.size())) {
            LateClaims x = new LateClaims();
            Model model = new Model();
            for (Call call : run) due.is(title + ": " + call, call.on(x), call.on(model));
            for (Call call : row) due.is(title + ": then " + call, call.on(x), call.on(model));
        }
    }

    /** The other numbers are ordinary ones, the third of their edges, but for times, of which the later is greater. */
    private void pairs(String title, List<Call> run, Method m, int i, int j) {
        int[][] edges = EDGES.get(m.getName());
        int[] a = new int[edges.length];
        for (int one : edges[i]) {
            for (int other : edges[j]) {
                for (int k = 0; k < a.length; k++) a[k] = edges[k][Math.min(edges[k].length - 1, 2 + k % 2)];
                if (m.getName().equals("law")) a[1] = 12;
                if (m.getName().equals("leg")) a[5] = 1800;
                a[i] = one;
                a[j] = other;
                ask(title, run, Call.of(m, a));
            }
        }
    }

    private void ask(String title, List<Call> run, Call call) {
        LateClaims x = new LateClaims();
        Model model = new Model();
        for (Call before : run) {
            before.on(x);
            before.on(model);
        }
        due.is(title + ": " + call, call.on(x), call.on(model));
        for (int what = 11; what <= 16; what++) {
            due.is(title + ": " + call + ", then count " + what, x.count(what), model.call("count", what));
        }
    }
}
