import java.util.ArrayList;
import java.util.Arrays;
import java.util.Comparator;
import java.util.HashMap;
import java.util.List;
import java.util.Map;

/**
 * The document again, word by word and by the dearest ways (days one by one, every parting of the PAYERS,
 * CLOCKS by a walk over all that was SEEN), so that a slip of the program is not a slip here too.
 */
public final class Model {
    private static final class L {
        int from, to, plane, crew, leave, arrive, left, arrived, cause, number;
        boolean log;
    }

    private static final class T {
        final List<L> legs = new ArrayList<>();
        final int[] owes = new int[5];
        boolean claimed;
    }

    private static final class C {
        int traveller, day;
        final int[] paid = new int[5];
    }

    private static final class Refused extends RuntimeException {
        private static final long serialVersionUID = 1L;
        final int number;

        Refused(int number) {
            this.number = number;
        }
    }

    private int day = 0;
    private final int[] land = new int[10];
    private final Map<List<Integer>, Integer> miles = new HashMap<>();
    private final List<int[]> seen = new ArrayList<>();
    private int quarrels = 0;
    private final List<L> legs = new ArrayList<>();
    private final int[] set = {30, 60, 45, 5};
    private final List<T> travellers = new ArrayList<>();
    private final List<int[]> laws = new ArrayList<>();
    private final List<int[]> excuses = new ArrayList<>();
    private final int[] bar = {365, 365, 365, 365};
    private final List<int[]> stops = new ArrayList<>();
    private final List<C> claims = new ArrayList<>();
    private final List<int[]> cases = new ArrayList<>();
    private final int[] refused = new int[7];

    /** The call by its name, with true as 1; the number of a refusal is counted here. */
    public int call(String name, int... a) {
        try {
            return answer(name, a);
        } catch (Refused r) {
            refused[-r.number]++;
            boolean beyond = name.equals("off") || name.equals("balance") || name.equals("odds");
            return beyond ? 1000000000 - r.number : r.number;
        }
    }

    private static void refuseIf(boolean so, int number) {
        if (so) throw new Refused(number);
    }

    private static void oneOf(int many, int... numbers) {
        for (int n : numbers) refuseIf(n < 0 || n >= many, -1);
    }

    private static void from(int least, int... numbers) {
        for (int n : numbers) refuseIf(n < least, -4);
    }

    private static void to(int most, int... numbers) {
        for (int n : numbers) refuseIf(n > most, -6);
    }

    private int answer(String name, int[] a) {
        switch (name) {
            case "days":
                from(0, a[0]);
                refuseIf((long) day + a[0] > 4000, -6);
                return day += a[0];
            case "land": {
                oneOf(10, a[0]);
                oneOf(4, a[1]);
                int was = land[a[0]];
                land[a[0]] = a[1];
                return was;
            }
            case "miles": {
                oneOf(10, a[0], a[1]);
                refuseIf(a[0] == a[1], -1);
                from(0, a[2]);
                to(9999, a[2]);
                int was = distance(a[0], a[1]);
                miles.put(List.of(Math.min(a[0], a[1]), Math.max(a[0], a[1])), a[2]);
                return was;
            }
            case "seen": {
                oneOf(10, a[0], a[1]);
                refuseIf(a[0] == a[1], -1);
                from(-600, a[2]);
                to(600, a[2]);
                Integer[] shows = clocksFrom(a[1]);
                if (shows[a[0]] != null && shows[a[0]] != a[2]) {
                    quarrels++;
                    return 0;
                }
                seen.add(a.clone());
                return 1;
            }
            case "off":
                oneOf(10, a[0]);
                return off(a[0]);
            default:
                return answerOfLegs(name, a);
        }
    }

    private int answerOfLegs(String name, int[] a) {
        switch (name) {
            case "leg": {
                oneOf(10, a[0], a[1]);
                refuseIf(a[0] == a[1], -1);
                oneOf(6, a[2], a[3]);
                from(0, a[4], a[5]);
                refuseIf(a[5] <= a[4], -4);
                to(20000, a[4], a[5]);
                refuseIf(legs.size() == 40, -6);
                L l = new L();
                l.from = a[0];
                l.to = a[1];
                l.plane = a[2];
                l.crew = a[3];
                l.leave = a[4];
                l.arrive = a[5];
                l.number = legs.size();
                legs.add(l);
                return l.number;
            }
            case "log": {
                oneOf(legs.size(), a[0]);
                from(0, a[1], a[2]);
                to(30000, a[1], a[2]);
                L l = legs.get(a[0]);
                int answer = l.log ? 0 : 1;
                l.log = true;
                l.left = a[1];
                l.arrived = a[2];
                return answer;
            }
            case "cause": {
                oneOf(legs.size(), a[0]);
                oneOf(6, a[1]);
                int was = legs.get(a[0]).cause;
                legs.get(a[0]).cause = a[1];
                return was;
            }
            case "set": {
                refuseIf(a[0] < 0 || a[0] > 3, -2);
                from(a[0] == 3 ? 1 : 0, a[1]);
                to(List.of(200, 900, 300, 9).get(a[0]), a[1]);
                int was = set[a[0]];
                set[a[0]] = a[1];
                return was;
            }
            case "legOf": {
                oneOf(legs.size(), a[0]);
                refuseIf(a[1] < 0 || a[1] > 5, -2);
                L l = legs.get(a[0]);
                refuseIf(!l.log, -5);
                return List.of(late(l), outlate(l), wait(l, false), wait(l, true), handed(l), late(l) - handed(l)).get(a[1]);
            }
            case "ahead": {
                oneOf(legs.size(), a[0]);
                L l = ahead(legs.get(a[0]), a[1] == 1);
                return l == null ? -9 : l.number;
            }
            case "minutes": {
                oneOf(legs.size(), a[0]);
                oneOf(6, a[1]);
                L l = legs.get(a[0]);
                refuseIf(!l.log, -5);
                return roots(l, late(l))[a[1]];
            }
            case "saved": {
                oneOf(legs.size(), a[0]);
                L l = legs.get(a[0]);
                refuseIf(!l.log, -5);
                from(0, a[1]);
                to(30000, a[1]);
                int would = Math.max(l.leave, Math.max(a[1], l.leave + wait(l, true)));
                return Math.max(0, rightLeft(l) - would);
            }
            default:
                return answerOfTravellers(name, a);
        }
    }

    private int answerOfTravellers(String name, int[] a) {
        switch (name) {
            case "traveller": {
                oneOf(legs.size(), a[0]);
                refuseIf(travellers.size() == 20, -6);
                T t = new T();
                t.legs.add(legs.get(a[0]));
                travellers.add(t);
                return travellers.size() - 1;
            }
            case "then": {
                oneOf(travellers.size(), a[0]);
                oneOf(legs.size(), a[1]);
                T t = travellers.get(a[0]);
                L next = legs.get(a[1]);
                refuseIf(next.from != last(t).to || next.leave < last(t).arrive + set[2], -3);
                refuseIf(t.legs.size() == 4, -6);
                t.legs.add(next);
                return t.legs.size();
            }
            case "missed":
                oneOf(travellers.size(), a[0]);
                return missed(travellers.get(a[0]));
            case "soonest":
                oneOf(travellers.size(), a[0]);
                return soonest(travellers.get(a[0]));
            case "hours":
                oneOf(travellers.size(), a[0]);
                return hours(travellers.get(a[0]));
            case "blame":
                oneOf(travellers.size(), a[0]);
                return blame(travellers.get(a[0]));
            case "law":
                oneOf(4, a[0]);
                from(day, a[1]);
                from(0, a[2], a[3], a[4]);
                to(4000, a[1]);
                to(9999, a[2], a[3], a[4]);
                refuseIf(laws.size() == 30, -6);
                laws.add(a.clone());
                return laws.size() - 1;
            case "excuse":
                oneOf(4, a[0]);
                oneOf(6, a[1]);
                from(0, a[2]);
                to(4000, a[2]);
                refuseIf(excuses.size() == 40, -6);
                excuses.add(new int[] {a[0], a[1], a[2], a[3], day});
                return excuses.size();
            case "sum": {
                oneOf(travellers.size(), a[0]);
                refuseIf(a[2] < 0 || a[2] > 2, -2);
                from(0, a[1]);
                to(4000, a[1]);
                T t = travellers.get(a[0]);
                return List.of(sum(t, a[1]), lawLand(t, a[1]), excused(t, a[1]) ? 1 : 0).get(a[2]);
            }
            default:
                return answerOfClaims(name, a);
        }
    }

    private int answerOfClaims(String name, int[] a) {
        switch (name) {
            case "bar": {
                oneOf(4, a[0]);
                from(1, a[1]);
                to(3000, a[1]);
                int was = bar[a[0]];
                bar[a[0]] = a[1];
                return was;
            }
            case "stop":
                oneOf(4, a[0]);
                from(0, a[1], a[2]);
                refuseIf(a[2] < a[1], -4);
                to(4000, a[1], a[2]);
                refuseIf(stops.size() == 20, -6);
                stops.add(a.clone());
                return stops.size();
            case "claim": {
                oneOf(travellers.size(), a[0]);
                refuseIf(travellers.get(a[0]).claimed, -3);
                refuseIf(claims.size() == 30, -6);
                travellers.get(a[0]).claimed = true;
                C c = new C();
                c.traveller = a[0];
                c.day = day;
                claims.add(c);
                return claims.size() - 1;
            }
            case "claimOf": {
                oneOf(claims.size(), a[0]);
                refuseIf(a[1] < 0 || a[1] > 5, -2);
                C c = claims.get(a[0]);
                int over = Math.max(0, settled(c) - worth(c));
                return List.of(c.traveller, c.day, barred(c) ? 1 : 0, worth(c), settled(c), over).get(a[1]);
            }
            case "owes": {
                oneOf(5, a[0]);
                oneOf(travellers.size(), a[1]);
                from(0, a[2]);
                to(9999, a[2]);
                int was = travellers.get(a[1]).owes[a[0]];
                travellers.get(a[1]).owes[a[0]] = a[2];
                return was;
            }
            case "pay": {
                oneOf(claims.size(), a[0]);
                oneOf(5, a[1]);
                from(1, a[2]);
                to(9999, a[2]);
                C c = claims.get(a[0]);
                refuseIf(settled(c) + a[2] > 99999, -6);
                c.paid[a[1]] += a[2];
                return settled(c);
            }
            case "due":
                oneOf(claims.size(), a[0]);
                oneOf(5, a[1]);
                return due(claims.get(a[0]), a[1]);
            case "balance":
                oneOf(5, a[0]);
                return balance(a[0]);
            case "back":
                return back();
            default:
                return answerOfCases(name, a);
        }
    }

    private int answerOfCases(String name, int[] a) {
        switch (name) {
            case "judged":
                oneOf(4, a[0]);
                oneOf(6, a[1]);
                from(0, a[2], a[3], a[5]);
                to(9999, a[2], a[3], a[5]);
                refuseIf(cases.size() == 40, -6);
                cases.add(a.clone());
                return cases.size() - 1;
            case "odds": {
                oneOf(claims.size(), a[0]);
                refuseIf(a[1] < 0 || a[1] > 2, -2);
                return odds(claims.get(a[0]))[a[1]];
            }
            case "good": {
                oneOf(claims.size(), a[0]);
                from(0, a[1]);
                to(9999, a[1]);
                C c = claims.get(a[0]);
                int[] odds = odds(c);
                double goingOn = odds[1] == 0 ? worth(c) / 2.0 : (double) odds[2] / odds[1];
                return a[1] >= goingOn ? 1 : 0;
            }
            case "count":
                return count(a[0]);
            default:
                throw new IllegalArgumentException(name);
        }
    }

    private int count(int what) {
        switch (what) {
            case 0: return day;
            case 1: return legs.size();
            case 2: return (int) legs.stream().filter(l -> l.log).count();
            case 3: return travellers.size();
            case 4: return laws.size();
            case 5: return claims.size();
            case 6: return (int) claims.stream().filter(this::barred).count();
            case 7: return cases.size();
            case 8: return quarrels;
            case 11: case 12: case 13: case 14: case 15: case 16: return refused[what - 10];
            default: return -9;
        }
    }

    private int distance(int a, int b) {
        return miles.getOrDefault(List.of(Math.min(a, b), Math.max(a, b)), 0);
    }

    /** How much each joined CLOCK shows more than that of a PORT; null where it is not joined. */
    private Integer[] clocksFrom(int port) {
        Integer[] shows = new Integer[10];
        shows[port] = 0;
        for (int round = 0; round < 10; round++) {
            for (int[] s : seen) {
                if (shows[s[0]] == null && shows[s[1]] != null) shows[s[0]] = shows[s[1]] + s[2];
                if (shows[s[1]] == null && shows[s[0]] != null) shows[s[1]] = shows[s[0]] - s[2];
            }
        }
        return shows;
    }

    private int off(int port) {
        for (int least = 0; least < port; least++) {
            Integer shows = clocksFrom(least)[port];
            if (shows != null) return shows;
        }
        return 0;
    }

    private int rightLeft(L l) {
        return Math.max(0, l.left - off(l.from));
    }

    private int rightArrived(L l) {
        return Math.max(0, l.arrived - off(l.to));
    }

    private int late(L l) {
        return Math.max(0, rightArrived(l) - l.arrive);
    }

    private int outlate(L l) {
        return Math.max(0, rightLeft(l) - l.leave);
    }

    private L ahead(L l, boolean crew) {
        return legs.stream()
            .filter(o -> crew ? o.crew == l.crew : o.plane == l.plane)
            .filter(o -> o.to == l.from)
            .filter(o -> o.arrive + set[crew ? 1 : 0] <= l.leave)
            .max(Comparator.<L>comparingInt(o -> o.arrive).thenComparingInt(o -> o.number))
            .orElse(null);
    }

    private int wait(L l, boolean crew) {
        L before = ahead(l, crew);
        if (before == null || !before.log) return 0;
        int wait = rightArrived(before) + set[crew ? 1 : 0] - l.leave;
        return Math.min(outlate(l), Math.max(0, wait));
    }

    private int handed(L l) {
        return Math.min(late(l), Math.max(wait(l, false), wait(l, true)));
    }

    private int[] roots(L l, int minutes) {
        int handed = Math.min(minutes, handed(l));
        int[] by = new int[6];
        if (handed > 0) by = roots(ahead(l, wait(l, true) > wait(l, false)), handed);
        by[l.cause] += minutes - handed;
        return by;
    }

    private static L last(T t) {
        return t.legs.get(t.legs.size() - 1);
    }

    private int missed(T t) {
        for (int i = 0; i < t.legs.size(); i++) {
            L l = t.legs.get(i);
            if (!l.log) return i;
            if (i > 0 && rightLeft(l) < rightArrived(t.legs.get(i - 1)) + set[2]) return i;
        }
        return -9;
    }

    private int soonest(T t) {
        int missed = missed(t);
        if (missed == -9) return rightArrived(last(t));
        L not = t.legs.get(missed);
        int time = missed == 0 ? not.leave : rightArrived(t.legs.get(missed - 1));
        boolean[] can = new boolean[legs.size()];
        for (L l : legs) can[l.number] = l.log && l.from == not.from && rightLeft(l) >= time;
        for (boolean more = true; more;) {
            more = false;
            for (L one : legs) {
                for (L two : legs) {
                    if (!can[one.number] || can[two.number] || !two.log || one.to != two.from) continue;
                    if (rightLeft(two) < rightArrived(one) + set[2]) continue;
                    can[two.number] = true;
                    more = true;
                }
            }
        }
        return legs.stream().filter(l -> can[l.number] && l.to == last(t).to).mapToInt(this::rightArrived).min().orElse(-9);
    }

    private int hours(T t) {
        int soonest = soonest(t);
        return soonest == -9 ? 9999 : Math.max(0, soonest - last(t).arrive);
    }

    private int blame(T t) {
        int missed = missed(t);
        L fault = missed == -9 ? last(t) : t.legs.get(missed);
        if (missed != -9 && fault.log) fault = t.legs.get(missed - 1);
        if (!fault.log || late(fault) == 0) return -9;
        int[] by = roots(fault, late(fault));
        int most = Arrays.stream(by).max().getAsInt();
        int cause = 0;
        while (by[cause] != most) cause++;
        return cause;
    }

    private int lawLand(T t, int on) {
        for (int port : new int[] {t.legs.get(0).from, last(t).to}) {
            if (laws.stream().anyMatch(w -> w[0] == land[port] && w[1] <= on)) return land[port];
        }
        return -9;
    }

    private boolean excused(T t, int on) {
        int where = lawLand(t, on);
        int blame = blame(t);
        int left = t.legs.get(0).leave / 1440;
        for (int i = excuses.size() - 1; i >= 0; i--) {
            int[] e = excuses.get(i);
            if (e[0] == where && e[1] == blame && e[2] <= left && e[4] <= left) return e[3] == 1;
        }
        return false;
    }

    private int sum(T t, int on) {
        if (excused(t, on)) return 0;
        int where = lawLand(t, on);
        int minutes = hours(t);
        int way = distance(t.legs.get(0).from, last(t).to);
        return laws.stream()
            .filter(w -> w[0] == where && w[1] <= on && minutes >= w[2] && way >= w[3])
            .mapToInt(w -> w[4]).max().orElse(0);
    }

    private boolean barred(C c) {
        T t = travellers.get(c.traveller);
        int where = lawLand(t, c.day);
        if (where == -9) return false;
        int ran = 0;
        for (int d = last(t).arrive / 1440 + 1; d <= c.day; d++) {
            int at = d;
            if (stops.stream().noneMatch(s -> s[0] == where && s[1] <= at && at <= s[2])) ran++;
        }
        return ran > bar[where];
    }

    private int worth(C c) {
        return barred(c) ? 0 : sum(travellers.get(c.traveller), c.day);
    }

    private static int settled(C c) {
        return Arrays.stream(c.paid).sum();
    }

    private int due(C c, int payer) {
        int ahead = 0;
        for (int p = 0; p < payer; p++) ahead += travellers.get(c.traveller).owes[p];
        int open = Math.max(0, worth(c) - ahead);
        return Math.min(open, travellers.get(c.traveller).owes[payer]);
    }

    private int balance(int payer) {
        int balance = 0;
        for (C c : claims) {
            if (settled(c) >= worth(c)) balance += c.paid[payer] - due(c, payer);
        }
        return balance;
    }

    private int back() {
        List<Integer> open = new ArrayList<>();
        for (int p = 0; p < 5; p++) {
            if (balance(p) != 0) open.add(balance(p));
        }
        if (open.stream().mapToInt(b -> b).sum() != 0) return -9;
        return open.size() - mostSets(open, 0, new int[5], 0);
    }

    /** Tries every parting: each BALANCE goes to one of the sets that are there, or to a new one. */
    private static int mostSets(List<Integer> open, int at, int[] sets, int many) {
        if (at == open.size()) {
            for (int s = 0; s < many; s++) {
                if (sets[s] != 0) return 0;
            }
            return many;
        }
        int most = 0;
        for (int s = 0; s <= many && s < 5; s++) {
            sets[s] += open.get(at);
            most = Math.max(most, mostSets(open, at + 1, sets, Math.max(many, s + 1)));
            sets[s] -= open.get(at);
        }
        return most;
    }

    private int[] odds(C c) {
        T t = travellers.get(c.traveller);
        int where = lawLand(t, c.day);
        int blame = blame(t);
        int minutes = hours(t);
        int way = distance(t.legs.get(0).from, last(t).to);
        List<int[]> like = new ArrayList<>();
        for (int[] j : cases) {
            if (j[0] == where && j[1] == blame) like.add(j);
        }
        like.sort(Comparator.comparingInt(j -> Math.abs(j[2] - minutes) / 10 + Math.abs(j[3] - way) / 50));
        if (like.size() > set[3]) like = like.subList(0, set[3]);
        int won = (int) like.stream().filter(j -> j[4] == 1).count();
        int cost = like.stream().mapToInt(j -> j[5]).sum();
        return new int[] {won, like.size(), like.isEmpty() ? 0 : worth(c) * won - cost};
    }
}
