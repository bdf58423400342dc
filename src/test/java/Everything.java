import java.util.ArrayList;
import java.util.List;

/**
 * Calls whose answers together show all that an object holds: all that can be asked, and all that can be told
 * and answers what it was or how many there are. How many REFUSALS there were is left out.
 */
final class Everything {
    private final int day;
    private final int legs;
    private final int travellers;
    private final int claims;

    Everything(LateClaims x) {
        day = x.count(0);
        legs = x.count(1);
        travellers = x.count(3);
        claims = x.count(5);
    }

    /** In rows of so many calls at most, each for an object of its own. */
    List<List<Call>> inRowsOf(int most) {
        List<List<Call>> rows = new ArrayList<>();
        part(rows, asked(), most);
        part(rows, whatItWas(), most);
        askedBehind(rows, stirs(), most);
        askedBehind(rows, logs(), most);
        return rows;
    }

    /** The changes come first in each row: without them the rest is what was asked before. */
    private void askedBehind(List<List<Call>> rows, List<Call> changes, int most) {
        List<List<Call>> parts = new ArrayList<>();
        part(parts, asked(), most - changes.size());
        for (List<Call> part : parts) {
            List<Call> row = new ArrayList<>(changes);
            row.addAll(part);
            rows.add(row);
        }
    }

    private static void part(List<List<Call>> rows, List<Call> calls, int most) {
        for (int at = 0; at < calls.size(); at += most) rows.add(calls.subList(at, Math.min(calls.size(), at + most)));
    }

    private List<Call> asked() {
        List<Call> calls = new ArrayList<>();
        add(calls, "count @", 9);
        add(calls, "off @", 10);
        add(calls, "balance @", 5);
        calls.add(Call.of("back"));
        for (int leg = 0; leg < legs; leg++) {
            add(calls, "legOf " + leg + " @", 6);
            add(calls, "minutes " + leg + " @", 6);
            calls.add(Call.of("ahead " + leg + " false"));
            calls.add(Call.of("ahead " + leg + " true"));
            calls.add(Call.of("saved " + leg + " 0"));
        }
        for (String ask : List.of("missed @", "soonest @", "hours @", "blame @")) add(calls, ask, travellers);
        for (int on : new int[] {0, day, 4000}) {
            for (int what = 0; what < 3; what++) add(calls, "sum @ " + on + " " + what, travellers);
        }
        for (int claim = 0; claim < claims; claim++) {
            add(calls, "claimOf " + claim + " @", 6);
            add(calls, "due " + claim + " @", 5);
            add(calls, "odds " + claim + " @", 3);
            calls.add(Call.of("good " + claim + " 100"));
        }
        return calls;
    }

    private List<Call> whatItWas() {
        List<Call> calls = new ArrayList<>();
        add(calls, "land @ 0", 10);
        for (int port = 1; port < 10; port++) add(calls, "miles " + port + " @ 0", port);
        add(calls, "cause @ 0", legs);
        add(calls, "set @ 1", 4);
        add(calls, "bar @ 1", 4);
        for (int payer = 0; payer < 5; payer++) add(calls, "owes " + payer + " @ 0", travellers);
        add(calls, "seen 0 @ 7", 10);
        add(calls, "pay @ 0 1", claims);
        add(calls, "then @ 0", travellers);
        add(calls, "claim @", travellers);
        add(calls, "log @ 7 7", legs);
        for (String tell : List.of("leg 0 1 0 0 1 2", "traveller 0", "law 0 4000 0 0 0", "excuse 0 0 0 true", "stop 0 0 0",
            "judged 0 0 0 0 true 0", "days 1")) {
            calls.add(Call.of(tell));
        }
        return calls;
    }

    /** They change what may be held without yet showing: right times, waits, rows of LAWS and what they lead to. */
    private List<Call> stirs() {
        List<Call> calls = new ArrayList<>();
        for (String tell : List.of("seen 0 1 -7", "seen 1 2 9", "seen 2 0 11", "set 0 0", "set 1 0", "set 2 5", "set 3 9",
            "law 0 4000 0 0 77", "law 1 4000 0 0 78", "law 2 4000 0 0 79", "law 3 4000 0 0 80")) {
            calls.add(Call.of(tell));
        }
        return calls;
    }

    /** All LEGS are done, so that it shows which ones stand on a ticket. */
    private List<Call> logs() {
        List<Call> calls = new ArrayList<>();
        for (int leg = 0; leg < legs; leg++) calls.add(Call.of("log " + leg + " " + (300 * leg + 10) + " " + (300 * leg + 37)));
        return calls;
    }

    private static void add(List<Call> calls, String words, int many) {
        for (int i = 0; i < many; i++) calls.add(Call.of(words.replace("@", Integer.toString(i))));
    }
}
