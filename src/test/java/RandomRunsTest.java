import java.lang.reflect.Method;
import java.util.ArrayList;
import java.util.HashMap;
import java.util.List;
import java.util.Map;
import java.util.Random;

/** Long runs of calls, ordinary ones and wrong ones mixed, whose answers must be those of the Model. */
public final class RandomRunsTest {
    private static final int RUNS = 500;
    private static final int CALLS = 512;

    private final Random random;
    private final Due due;
    private final List<Method> face = Call.face();
    private final Map<String, Map<Integer, Integer>> answers = new HashMap<>();
    /** Of one run: how many PORTS it uses, how far apart times lie, how often a call is wrong, how fast DAYS go. */
    private int ports;
    private int span;
    private int wrongOf;
    private int pace;
    private Model model;
    private List<int[]> legs;
    private List<Integer> ends;

    private RandomRunsTest(Random random, Due due) {
        this.random = random;
        this.due = due;
    }

    public static void main(String[] args) {
        Due due = new Due();
        RandomRunsTest test = new RandomRunsTest(new Random(20261117), due);
        due.is("methods of the face", test.face.size(), 35);
        int runs = args.length > 0 ? Integer.parseInt(args[0]) : RUNS;
        for (int run = 0; run < runs && !due.isWrong(); run++) test.run(run);
        if (args.length > 1) test.tell();
        due.end();
    }

    private void run(int number) {
        ports = 2 + random.nextInt(4);
        span = new int[] {300, 1500, 6000, 20000}[random.nextInt(4)];
        wrongOf = new int[] {8, 40, 1000}[random.nextInt(3)];
        // With DAYS that go fast most CLAIMS are BARRED, so in half of the runs they go slowly.
        pace = random.nextInt(2) * (1 + random.nextInt(4));
        LateClaims x = new LateClaims();
        model = new Model();
        legs = new ArrayList<>();
        ends = new ArrayList<>();
        List<String> told = new ArrayList<>();
        for (int i = 0; i < CALLS; i++) {
            Method m = choose(i);
            int[] a = arguments(m.getName(), m.getParameterCount());
            Call call = Call.of(m, a);
            int got = call.on(x);
            int wanted = call.on(model);
            remember(m.getName(), a, wanted);
            told.add(call + " = " + wanted);
            answers.computeIfAbsent(m.getName(), n -> new HashMap<>()).merge(wanted, 1, Integer::sum);
            due.is("run " + number + ", call " + i + ": " + call, got, wanted);
            if (got != wanted) {
                told.forEach(System.out::println);
                return;
            }
        }
    }

    /** At first mostly what tells, so that later calls have something to ask for. */
    private Method choose(int call) {
        String[] telling = {"leg", "leg", "leg", "log", "log", "log", "cause", "land", "miles", "seen", "law",
            "traveller", "then", "then", "then", "judged", "excuse", "owes", "claim", "pay", "stop", "days"};
        if (random.nextInt(512) < 512 - call) {
            String name = telling[random.nextInt(telling.length)];
            for (Method m : face) {
                if (m.getName().equals(name)) return m;
            }
        }
        return face.get(random.nextInt(face.size()));
    }

    private int[] arguments(String name, int many) {
        int[] a = ordinary(name);
        if (a.length != many) throw new IllegalStateException(name);
        boolean wrong = random.nextInt(wrongOf) == 0;
        if (wrong && many > 0) a[random.nextInt(many)] = wrongOne();
        if (wrong && many > 1 && random.nextBoolean()) a[random.nextInt(many)] = wrongOne();
        if (name.equals("ahead")) a[1] &= 1;
        if (name.equals("excuse")) a[3] &= 1;
        if (name.equals("judged")) a[4] &= 1;
        return a;
    }

    private int wrongOne() {
        int[] edges = {-1, 0, 1, 2, 3, 4, 5, 6, 9, 10, 17, 20, 30, 40, -600, -601, 600, 601, 200, 201, 300, 301, 900, 901,
            3000, 3001, 4000, 4001, 9999, 10000, 20000, 20001, 30000, 30001, Integer.MIN_VALUE, Integer.MAX_VALUE};
        return edges[random.nextInt(edges.length)];
    }

    private int[] ordinary(String name) {
        switch (name) {
            case "days": return new int[] {r(4) == 0 ? r(pace * 100 + 3) : r(pace)};
            case "land": return new int[] {r(ports), r(3)};
            case "miles": return new int[] {r(ports), r(ports), r(2000)};
            case "seen": return new int[] {r(ports), r(ports), 10 * (r(7) - 3)};
            case "off": return new int[] {r(ports + 1)};
            case "leg": return newLeg();
            case "log": return newLog();
            case "cause": return new int[] {one(1), r(6)};
            case "set": {
                int what = r(4);
                return new int[] {what, what == 3 ? 1 + r(9) : r(5) == 0 ? r(301) : 10 * r(8)};
            }
            case "legOf": return new int[] {one(1), r(6)};
            case "ahead": return new int[] {one(1), r(2)};
            case "minutes": return new int[] {one(1), r(6)};
            case "saved": return new int[] {one(1), r(span)};
            case "traveller": return new int[] {one(1)};
            case "then": return newThen();
            case "missed": case "soonest": case "hours": case "blame": return new int[] {one(3)};
            case "law": return new int[] {r(3), model.call("count", 0) + r(2) * r(5), r(2) * r(3) * r(200), r(4) / 3 * r(500), 50 * r(20)};
            case "excuse": return new int[] {r(4), r(6), r(15), r(3) / 2};
            case "sum": return new int[] {one(3), model.call("count", 0) + r(10), r(3)};
            case "bar": return new int[] {r(4), 1 + r(60)};
            case "stop": {
                int from = r(200);
                return new int[] {r(3), from, from + r(50)};
            }
            default: return ordinaryOfClaims(name);
        }
    }

    private int[] ordinaryOfClaims(String name) {
        switch (name) {
            case "claim": return new int[] {one(3)};
            case "claimOf": return new int[] {one(5), r(6)};
            case "owes": return new int[] {r(5), one(3), 50 * r(15)};
            case "pay": return newPayment();
            case "due": return new int[] {one(5), r(5)};
            case "balance": return new int[] {r(5)};
            case "back": return new int[0];
            case "judged": return new int[] {r(3), r(4), r(1000), r(2000), r(2), r(300)};
            case "odds": return new int[] {one(5), r(3)};
            case "good": return new int[] {one(5), r(2) * r(600)};
            case "count": return new int[] {r(18)};
            default: throw new IllegalStateException(name);
        }
    }

    /** Often behind another LEG, by about as much as TURN, REST and CONNECT ask for. */
    private int[] newLeg() {
        int leave = r(span - 60);
        int[] leg = {r(ports), r(ports), r(2), r(2), leave, leave + 1 + r(300)};
        if (!legs.isEmpty() && r(3) > 0) {
            int[] before = legs.get(r(legs.size()));
            leg[0] = before[1];
            leg[2] = before[2];
            leg[4] = before[5] + 10 * r(10);
            leg[5] = leg[4] + 10 + r(200);
        }
        if (leg[0] == leg[1]) leg[1] = (leg[1] + 1) % ports;
        return leg;
    }

    /** Mostly about as planned; now and then anything at all, arrivals ahead of leaving among them. */
    private int[] newLog() {
        int number = one(1);
        if (legs.isEmpty() || r(8) == 0) return new int[] {number, r(span), r(span)};
        int[] leg = legs.get(number);
        int late = r(2) * r(150);
        return new int[] {number, leg[4] + late, leg[5] + late + r(2) * r(60)};
    }

    private int[] newThen() {
        int ticket = one(3);
        if (r(4) == 0 || ends.isEmpty()) return new int[] {ticket, one(1)};
        int[] last = legs.get(ends.get(ticket));
        int start = r(legs.size());
        for (int i = 0; i < legs.size(); i++) {
            int at = (start + i) % legs.size();
            if (legs.get(at)[0] == last[1] && legs.get(at)[4] >= last[5]) return new int[] {ticket, at};
        }
        return new int[] {ticket, one(1)};
    }

    /** Mostly what is still open, so that CLAIMS get settled and BALANCES come to be 0 together. */
    private int[] newPayment() {
        int claim = one(5);
        int sum = 50 + 50 * r(10);
        if (model.call("count", 5) > 0 && r(8) > 0) {
            int open = model.call("claimOf", claim, 3) - model.call("claimOf", claim, 4);
            if (open > 0 && open <= 9999) sum = r(2) == 0 ? open : Math.max(1, open / 100 * 50);
        }
        return new int[] {claim, r(5), sum};
    }

    /** A number of which there is one, if there is any at all: LEGS (1), travellers (3), CLAIMS (5). */
    private int one(int counted) {
        return r(model.call("count", counted));
    }

    private void remember(String name, int[] a, int answer) {
        if (answer < 0) return;
        if (name.equals("leg")) legs.add(a);
        if (name.equals("traveller")) ends.add(a[0]);
        if (name.equals("then")) ends.set(a[0], a[1]);
    }

    private int r(int many) {
        return random.nextInt(Math.max(1, many));
    }

    /** How often each kind of answer came, to see that the runs do go where they should. */
    private void tell() {
        for (Method m : face) {
            Map<Integer, Integer> of = answers.getOrDefault(m.getName(), Map.of());
            StringBuilder line = new StringBuilder(m.getName()).append(": kinds ").append(of.size());
            for (int n : new int[] {-1, -2, -3, -4, -5, -6, -9, 0, 1, 2, 3, 4}) {
                if (of.containsKey(n)) line.append(", ").append(n).append(" x").append(of.get(n));
            }
            System.out.println(line);
        }
    }
}
