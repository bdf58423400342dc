import java.util.Arrays;

/**
 * The face that DOC.md promises: it looks at what a call tells, counts what is refused, and asks the
 * parts below. Of what can be worked out only the right times and what is LATE by them are kept, since a
 * later SEEN, LOG, LAW or STOP may change every answer.
 */
public final class LateClaims {
    private static final int NOBODY = -1;
    private static final int OTHER = -2;
    private static final int STATE = -3;
    private static final int BELOW = -4;
    private static final int MISSING = -5;
    private static final int ROOM = -6;
    private static final int NONE = -9;
    private static final int BEYOND_ANSWERS = 1000000000;

    private static final int LANDS = 4;
    private static final int PLANES = 6;
    private static final int CREWS = 6;
    private static final int CAUSES = 6;
    private static final int PAYERS = 5;

    private static final int LAST_DAY = 4000;
    private static final int LAST_PLANNED = 20000;
    private static final int LAST_LOGGED = 30000;
    private static final int GREATEST = 9999;
    private static final int GREATEST_SEEN = 600;
    private static final int GREATEST_SETTLED = 99999;
    private static final int GREATEST_BAR = 3000;
    private static final int DAY_MINUTES = 1440;

    private static final int TURN = 0;
    private static final int REST = 1;
    private static final int CONNECT = 2;
    private static final int K = 3;
    private static final int[] FIRST_SETTING = {30, 60, 45, 5};
    private static final int[] LEAST_SETTING = {0, 0, 0, 1};
    private static final int[] GREATEST_SETTING = {200, 900, 300, 9};

    private final Ports ports;
    private final Timetable timetable;
    private final Tickets tickets;
    private final Laws laws;
    private final Bars bars;
    private final Claims claims;
    private final Cases cases;
    private final int[] settings;
    private final int[] refusals;
    private int today;

    public LateClaims() {
        ports = new Ports();
        timetable = new Timetable();
        tickets = new Tickets();
        laws = new Laws();
        bars = new Bars();
        claims = new Claims();
        cases = new Cases();
        settings = FIRST_SETTING.clone();
        refusals = new int[-ROOM + 1];
        today = 0;
    }

    public int days(int n) {
        if (n < 0) return refuse(BELOW);
        if (n > LAST_DAY - today) return refuse(ROOM);
        today += n;
        return today;
    }

    public int land(int port, int land) {
        Port place = ports.find(port);
        if (place == null || !isOneOf(LANDS, land)) return refuse(NOBODY);
        int was = place.land;
        place.land = land;
        return was;
    }

    public int miles(int a, int b, int v) {
        Port one = ports.find(a);
        Port other = ports.find(b);
        if (one == null || other == null || one == other) return refuse(NOBODY);
        if (v < 0) return refuse(BELOW);
        if (v > GREATEST) return refuse(ROOM);
        int was = ports.milesBetween(one, other);
        ports.setMiles(one, other, v);
        return was;
    }

    public int seen(int a, int b, int by) {
        Port one = ports.find(a);
        Port other = ports.find(b);
        if (one == null || other == null || one == other) return refuse(NOBODY);
        if (by < -GREATEST_SEEN) return refuse(BELOW);
        if (by > GREATEST_SEEN) return refuse(ROOM);
        if (!ports.take(one, other, by)) return 0;
        timetable.putRight();
        return 1;
    }

    public int off(int port) {
        Port place = ports.find(port);
        if (place == null) return refuseBeyond(NOBODY);
        return place.ahead;
    }

    public int leg(int from, int to, int plane, int crew, int leave, int arrive) {
        Port start = ports.find(from);
        Port end = ports.find(to);
        if (start == null || end == null || start == end) return refuse(NOBODY);
        if (!isOneOf(PLANES, plane) || !isOneOf(CREWS, crew)) return refuse(NOBODY);
        if (leave < 0 || arrive <= leave) return refuse(BELOW);
        if (leave > LAST_PLANNED || arrive > LAST_PLANNED || timetable.isFull()) return refuse(ROOM);
        return timetable.add(start, end, plane, crew, leave, arrive);
    }

    public int log(int leg, int left, int arrived) {
        Leg told = timetable.find(leg);
        if (told == null) return refuse(NOBODY);
        if (left < 0 || arrived < 0) return refuse(BELOW);
        if (left > LAST_LOGGED || arrived > LAST_LOGGED) return refuse(ROOM);
        boolean anew = told.logged;
        told.enter(left, arrived);
        return anew ? 0 : 1;
    }

    public int cause(int leg, int cause) {
        Leg told = timetable.find(leg);
        if (told == null || !isOneOf(CAUSES, cause)) return refuse(NOBODY);
        int was = told.cause;
        told.cause = cause;
        return was;
    }

    public int set(int what, int v) {
        if (!isOneOf(settings.length, what)) return refuse(OTHER);
        if (v < LEAST_SETTING[what]) return refuse(BELOW);
        if (v > GREATEST_SETTING[what]) return refuse(ROOM);
        int was = settings[what];
        settings[what] = v;
        return was;
    }

    public int legOf(int leg, int what) {
        Leg asked = timetable.find(leg);
        if (asked == null) return refuse(NOBODY);
        if (!isOneOf(6, what)) return refuse(OTHER);
        if (!asked.logged) return refuse(MISSING);
        switch (what) {
            case 0: return asked.late;
            case 1: return asked.outlate;
            case 2: return waitOf(asked, false);
            case 3: return waitOf(asked, true);
            case 4: return handedTo(asked);
            default: return asked.late - handedTo(asked);
        }
    }

    public int ahead(int leg, boolean crew) {
        Leg asked = timetable.find(leg);
        if (asked == null) return refuse(NOBODY);
        Leg before = timetable.aheadOf(asked, crew, gapFor(crew));
        return before == null ? NONE : before.number;
    }

    public int minutes(int leg, int cause) {
        Leg asked = timetable.find(leg);
        if (asked == null || !isOneOf(CAUSES, cause)) return refuse(NOBODY);
        if (!asked.logged) return refuse(MISSING);
        timetable.trace(asked, settings[TURN], settings[REST]);
        return timetable.minutesBy[cause];
    }

    public int saved(int leg, int free) {
        Leg asked = timetable.find(leg);
        if (asked == null) return refuse(NOBODY);
        if (!asked.logged) return refuse(MISSING);
        if (free < 0) return refuse(BELOW);
        if (free > LAST_LOGGED) return refuse(ROOM);
        int wouldLeave = Math.max(free, asked.leave + waitOf(asked, true));
        return Math.max(0, asked.rightLeft - wouldLeave);
    }

    public int traveller(int leg) {
        Leg first = timetable.find(leg);
        if (first == null) return refuse(NOBODY);
        if (tickets.isFull()) return refuse(ROOM);
        return tickets.add(first);
    }

    public int then(int traveller, int leg) {
        Ticket ticket = tickets.find(traveller);
        Leg next = timetable.find(leg);
        if (ticket == null || next == null) return refuse(NOBODY);
        if (!ticket.isFollowedBy(next, settings[CONNECT])) return refuse(STATE);
        if (ticket.isFull()) return refuse(ROOM);
        ticket.add(next);
        return ticket.size;
    }

    public int missed(int traveller) {
        Ticket ticket = tickets.find(traveller);
        if (ticket == null) return refuse(NOBODY);
        return ticket.missedPlace(settings[CONNECT]);
    }

    public int soonest(int traveller) {
        Ticket ticket = tickets.find(traveller);
        if (ticket == null) return refuse(NOBODY);
        return soonestOf(ticket);
    }

    public int hours(int traveller) {
        Ticket ticket = tickets.find(traveller);
        if (ticket == null) return refuse(NOBODY);
        return hoursOf(ticket);
    }

    public int blame(int traveller) {
        Ticket ticket = tickets.find(traveller);
        if (ticket == null) return refuse(NOBODY);
        return blameOf(ticket);
    }

    public int law(int land, int day, int minutes, int miles, int sum) {
        if (!isOneOf(LANDS, land)) return refuse(NOBODY);
        if (day < today || minutes < 0 || miles < 0 || sum < 0) return refuse(BELOW);
        if (day > LAST_DAY || minutes > GREATEST || miles > GREATEST || sum > GREATEST) return refuse(ROOM);
        if (laws.isFull()) return refuse(ROOM);
        return laws.add(land, day, minutes, miles, sum);
    }

    public int excuse(int land, int cause, int day, boolean on) {
        if (!isOneOf(LANDS, land) || !isOneOf(CAUSES, cause)) return refuse(NOBODY);
        if (day < 0) return refuse(BELOW);
        if (day > LAST_DAY || laws.isFullOfExcuses()) return refuse(ROOM);
        return laws.addExcuse(land, cause, day, today, on);
    }

    public int sum(int traveller, int day, int what) {
        Ticket ticket = tickets.find(traveller);
        if (ticket == null) return refuse(NOBODY);
        if (!isOneOf(3, what)) return refuse(OTHER);
        if (day < 0) return refuse(BELOW);
        if (day > LAST_DAY) return refuse(ROOM);
        if (what == 0) return sumFor(ticket, day);
        int land = laws.landFor(ticket, day);
        if (what == 1) return land;
        return laws.isExcused(land, blameOf(ticket), ticket.leaveDay()) ? 1 : 0;
    }

    public int bar(int land, int days) {
        if (!isOneOf(LANDS, land)) return refuse(NOBODY);
        if (days < 1) return refuse(BELOW);
        if (days > GREATEST_BAR) return refuse(ROOM);
        int was = bars.daysIn[land];
        bars.daysIn[land] = days;
        return was;
    }

    public int stop(int land, int from, int to) {
        if (!isOneOf(LANDS, land)) return refuse(NOBODY);
        if (from < 0 || to < from) return refuse(BELOW);
        if (from > LAST_DAY || to > LAST_DAY || bars.isFull()) return refuse(ROOM);
        return bars.addStop(land, from, to);
    }

    public int claim(int traveller) {
        Ticket ticket = tickets.find(traveller);
        if (ticket == null) return refuse(NOBODY);
        if (ticket.claimed) return refuse(STATE);
        if (claims.isFull()) return refuse(ROOM);
        return claims.add(ticket, today);
    }

    public int claimOf(int claim, int what) {
        Claim asked = claims.find(claim);
        if (asked == null) return refuse(NOBODY);
        switch (what) {
            case 0: return asked.ticket.number;
            case 1: return asked.day;
            case 2: return isBarred(asked) ? 1 : 0;
            case 3: return worthOf(asked);
            case 4: return asked.settled;
            case 5: return Math.max(0, asked.settled - worthOf(asked));
            default: return refuse(OTHER);
        }
    }

    public int owes(int payer, int traveller, int sum) {
        Ticket ticket = tickets.find(traveller);
        if (!isOneOf(PAYERS, payer) || ticket == null) return refuse(NOBODY);
        if (sum < 0) return refuse(BELOW);
        if (sum > GREATEST) return refuse(ROOM);
        int was = ticket.owed[payer];
        ticket.owed[payer] = sum;
        return was;
    }

    public int pay(int claim, int payer, int sum) {
        Claim told = claims.find(claim);
        if (told == null || !isOneOf(PAYERS, payer)) return refuse(NOBODY);
        if (sum < 1) return refuse(BELOW);
        if (sum > GREATEST || told.settled + sum > GREATEST_SETTLED) return refuse(ROOM);
        told.paid[payer] += sum;
        told.settled += sum;
        return told.settled;
    }

    public int due(int claim, int payer) {
        Claim asked = claims.find(claim);
        if (asked == null || !isOneOf(PAYERS, payer)) return refuse(NOBODY);
        return asked.partOf(payer, worthOf(asked));
    }

    public int balance(int payer) {
        if (!isOneOf(PAYERS, payer)) return refuseBeyond(NOBODY);
        settleUp();
        return claims.balances[payer];
    }

    public int back() {
        settleUp();
        return claims.fewestPayments();
    }

    public int judged(int land, int cause, int minutes, int miles, boolean won, int cost) {
        if (!isOneOf(LANDS, land) || !isOneOf(CAUSES, cause)) return refuse(NOBODY);
        if (minutes < 0 || miles < 0 || cost < 0) return refuse(BELOW);
        if (minutes > GREATEST || miles > GREATEST || cost > GREATEST || cases.isFull()) return refuse(ROOM);
        return cases.add(land, cause, minutes, miles, won, cost);
    }

    public int odds(int claim, int what) {
        Claim asked = claims.find(claim);
        if (asked == null) return refuseBeyond(NOBODY);
        if (!isOneOf(3, what)) return refuseBeyond(OTHER);
        chooseLike(asked);
        if (what == 0) return cases.chosenWon;
        if (what == 1) return cases.chosen;
        return cases.goingOnTimesChosen(worthOf(asked));
    }

    public int good(int claim, int sum) {
        Claim asked = claims.find(claim);
        if (asked == null) return refuse(NOBODY);
        if (sum < 0) return refuse(BELOW);
        if (sum > GREATEST) return refuse(ROOM);
        chooseLike(asked);
        int worth = worthOf(asked);
        boolean isGood = cases.chosen == 0
            ? sum * 2 >= worth
            : sum * cases.chosen >= cases.goingOnTimesChosen(worth);
        return isGood ? 1 : 0;
    }

    public int count(int what) {
        switch (what) {
            case 0: return today;
            case 1: return timetable.size;
            case 2: return timetable.countLogged();
            case 3: return tickets.size;
            case 4: return laws.size;
            case 5: return claims.size;
            case 6: return countBarred();
            case 7: return cases.size;
            case 8: return ports.quarrels;
            default: return what > 10 && what - 10 < refusals.length ? refusals[what - 10] : NONE;
        }
    }

    private static boolean isOneOf(int many, int number) {
        return number >= 0 && number < many;
    }

    private int refuse(int number) {
        int place = -number;
        if (isOneOf(refusals.length, place)) refusals[place]++;
        return number;
    }

    /** For calls whose own answers may be below 0, so that a refusal cannot be taken for one. */
    private int refuseBeyond(int number) {
        return BEYOND_ANSWERS - refuse(number);
    }

    private int gapFor(boolean crew) {
        return crew ? settings[REST] : settings[TURN];
    }

    private int waitOf(Leg leg, boolean crew) {
        int gap = gapFor(crew);
        return leg.waitFor(timetable.aheadOf(leg, crew, gap), gap);
    }

    private int handedTo(Leg leg) {
        return Math.min(leg.late, Math.max(waitOf(leg, false), waitOf(leg, true)));
    }

    private int soonestOf(Ticket ticket) {
        int connect = settings[CONNECT];
        int place = ticket.missedPlace(connect);
        if (place == NONE) return ticket.last.rightArrived;
        Leg missed = ticket.legs[place];
        int time = place == 0 ? missed.leave : ticket.legs[place - 1].rightArrived;
        return timetable.soonestBy(missed.from, time, ticket.last.to, connect);
    }

    private int hoursOf(Ticket ticket) {
        int arrival = soonestOf(ticket);
        return arrival == NONE ? GREATEST : Math.max(0, arrival - ticket.last.arrive);
    }

    private int blameOf(Ticket ticket) {
        Leg fault = ticket.legAtFault(settings[CONNECT]);
        if (!fault.logged || fault.late == 0) return NONE;
        timetable.trace(fault, settings[TURN], settings[REST]);
        return timetable.greatestCause();
    }

    private int sumFor(Ticket ticket, int day) {
        int land = laws.landFor(ticket, day);
        if (land == NONE || laws.isExcused(land, blameOf(ticket), ticket.leaveDay())) return 0;
        return laws.greatestSum(land, day, hoursOf(ticket), milesOf(ticket));
    }

    private int milesOf(Ticket ticket) {
        return ports.milesBetween(ticket.first.from, ticket.last.to);
    }

    private boolean isBarred(Claim claim) {
        int land = laws.landFor(claim.ticket, claim.day);
        if (land == NONE) return false;
        return bars.daysThatRan(land, claim.ticket.arriveDay() + 1, claim.day) > bars.daysIn[land];
    }

    private int worthOf(Claim claim) {
        return isBarred(claim) ? 0 : sumFor(claim.ticket, claim.day);
    }

    private int countBarred() {
        int barred = 0;
        for (int i = 0; i < claims.size; i++) {
            if (isBarred(claims.all[i])) barred++;
        }
        return barred;
    }

    private void settleUp() {
        Arrays.fill(claims.balances, 0);
        for (int i = 0; i < claims.size; i++) {
            Claim claim = claims.all[i];
            int worth = worthOf(claim);
            if (claim.settled >= worth) claims.addToBalances(claim, worth);
        }
    }

    private void chooseLike(Claim claim) {
        Ticket ticket = claim.ticket;
        int land = laws.landFor(ticket, claim.day);
        cases.measure(land, blameOf(ticket), hoursOf(ticket), milesOf(ticket));
        cases.choose(settings[K]);
    }

    private static final class Port {
        final int number;
        int land;
        /** The number of the least PORT with which this one's CLOCK is joined. */
        int least;
        /** OFF: how much the CLOCK shows more than that of the least PORT. */
        int ahead;

        Port(int number) {
            this.number = number;
            this.least = number;
        }
    }

    private static final class Ports {
        static final int MOST = 10;

        final Port[] all;
        final int[][] distances;
        int quarrels;

        Ports() {
            all = new Port[MOST];
            for (int i = 0; i < MOST; i++) all[i] = new Port(i);
            distances = new int[MOST][MOST];
        }

        Port find(int number) {
            return isOneOf(MOST, number) ? all[number] : null;
        }

        int milesBetween(Port one, Port other) {
            return distances[one.number][other.number];
        }

        void setMiles(Port one, Port other, int v) {
            distances[one.number][other.number] = v;
            distances[other.number][one.number] = v;
        }

        /** Joins two CLOCKS by what was SEEN of them, unless that QUARRELS with what was SEEN before. */
        boolean take(Port one, Port other, int by) {
            if (one.least == other.least) {
                boolean fits = one.ahead - other.ahead == by;
                if (!fits) quarrels++;
                return fits;
            }
            // The group with the lesser least PORT stays as it is, so that it need not be told anew.
            if (one.least < other.least) {
                move(other.least, one.least, one.ahead - by - other.ahead);
            } else {
                move(one.least, other.least, other.ahead + by - one.ahead);
            }
            return true;
        }

        private void move(int fromLeast, int toLeast, int shift) {
            for (int i = 0; i < MOST; i++) {
                Port port = all[i];
                if (port.least == fromLeast) {
                    port.least = toLeast;
                    port.ahead += shift;
                }
            }
        }
    }

    private static final class Leg {
        final int number;
        final Port from;
        final Port to;
        final int plane;
        final int crew;
        final int leave;
        final int arrive;
        boolean logged;
        int left;
        int arrived;
        int rightLeft;
        int rightArrived;
        int outlate;
        int late;
        int cause;

        Leg(int number, Port from, Port to, int plane, int crew, int leave, int arrive) {
            this.number = number;
            this.from = from;
            this.to = to;
            this.plane = plane;
            this.crew = crew;
            this.leave = leave;
            this.arrive = arrive;
        }

        void enter(int left, int arrived) {
            this.left = left;
            this.arrived = arrived;
            logged = true;
            putRight();
        }

        void putRight() {
            rightLeft = Math.max(0, left - from.ahead);
            rightArrived = Math.max(0, arrived - to.ahead);
            outlate = Math.max(0, rightLeft - leave);
            late = Math.max(0, rightArrived - arrive);
        }

        int waitFor(Leg before, int gap) {
            if (before == null || !before.logged) return 0;
            int wait = Math.max(0, before.rightArrived + gap - leave);
            return Math.min(wait, outlate);
        }
    }

    private static final class Timetable {
        static final int MOST = 40;

        final Leg[] all;
        int size;
        /** The MINUTES by each CAUSE of the LEG that was traced last. */
        final int[] minutesBy;
        private final boolean[] reached;
        private final Leg[] onTheWay;

        Timetable() {
            all = new Leg[MOST];
            minutesBy = new int[CAUSES];
            reached = new boolean[MOST];
            onTheWay = new Leg[MOST];
        }

        boolean isFull() {
            return size >= MOST;
        }

        Leg find(int number) {
            return isOneOf(size, number) ? all[number] : null;
        }

        int add(Port from, Port to, int plane, int crew, int leave, int arrive) {
            all[size] = new Leg(size, from, to, plane, crew, leave, arrive);
            size++;
            return size - 1;
        }

        void putRight() {
            for (int i = 0; i < size; i++) {
                if (all[i].logged) all[i].putRight();
            }
        }

        int countLogged() {
            int logged = 0;
            for (int i = 0; i < size; i++) {
                if (all[i].logged) logged++;
            }
            return logged;
        }

        Leg aheadOf(Leg leg, boolean crew, int gap) {
            Leg latest = null;
            for (int i = 0; i < size; i++) {
                Leg other = all[i];
                boolean same = crew ? other.crew == leg.crew : other.plane == leg.plane;
                if (!same || other.to != leg.from || leg.leave - other.arrive < gap) continue;
                if (latest == null || other.arrive >= latest.arrive) latest = other;
            }
            return latest;
        }

        /** Leads all minutes that a LEG was LATE back to the LEGS whose OWN they are. */
        void trace(Leg leg, int turn, int rest) {
            Arrays.fill(minutesBy, 0);
            Leg at = leg;
            int minutes = leg.late;
            // A LEG AHEAD is planned to leave sooner, so no LEG can come twice.
            for (int step = 0; step < MOST && at != null && minutes > 0; step++) {
                Leg byPlane = aheadOf(at, false, turn);
                Leg byCrew = aheadOf(at, true, rest);
                int planeWait = at.waitFor(byPlane, turn);
                int crewWait = at.waitFor(byCrew, rest);
                int handed = Math.min(at.late, Math.max(planeWait, crewWait));
                int led = Math.min(minutes, handed);
                minutesBy[at.cause] += minutes - led;
                minutes = led;
                at = crewWait > planeWait ? byCrew : byPlane;
            }
        }

        int greatestCause() {
            int greatest = 0;
            for (int cause = 1; cause < CAUSES; cause++) {
                if (minutesBy[cause] > minutesBy[greatest]) greatest = cause;
            }
            return greatest;
        }

        /**
         * The soonest right arrival at the goal by LEGS with LOGS. It goes over LEGS, not over PORTS by
         * time, since CLOCKS can make a LEG arrive ahead of its own leaving.
         */
        int soonestBy(Port start, int time, Port goal, int connect) {
            for (int i = 0; i < size; i++) reached[i] = false;
            int found = reach(0, start, time);
            int soonest = NONE;
            for (int next = 0; next < found && next < MOST; next++) {
                Leg leg = onTheWay[next];
                if (leg.to == goal && (soonest == NONE || leg.rightArrived < soonest)) soonest = leg.rightArrived;
                found = reach(found, leg.to, leg.rightArrived + connect);
            }
            return soonest;
        }

        /** Puts the LEGS that can be taken at a PORT from a time on behind the first found ones. */
        private int reach(int found, Port port, int time) {
            int end = found;
            for (int i = 0; i < size && end < MOST; i++) {
                Leg leg = all[i];
                if (reached[i] || !leg.logged || leg.from != port || leg.rightLeft < time) continue;
                reached[i] = true;
                onTheWay[end] = leg;
                end++;
            }
            return end;
        }
    }

    private static final class Ticket {
        static final int MOST_LEGS = 4;

        final int number;
        final Leg first;
        Leg last;
        final Leg[] legs;
        int size;
        final int[] owed;
        boolean claimed;

        Ticket(int number, Leg first) {
            this.number = number;
            this.first = first;
            this.last = first;
            legs = new Leg[MOST_LEGS];
            legs[0] = first;
            size = 1;
            owed = new int[PAYERS];
        }

        boolean isFull() {
            return size >= MOST_LEGS;
        }

        boolean isFollowedBy(Leg leg, int connect) {
            return leg.from == last.to && leg.leave - last.arrive >= connect;
        }

        void add(Leg leg) {
            legs[size] = leg;
            last = leg;
            size++;
        }

        int missedPlace(int connect) {
            for (int i = 0; i < size; i++) {
                if (!legs[i].logged) return i;
                if (i > 0 && legs[i].rightLeft - legs[i - 1].rightArrived < connect) return i;
            }
            return NONE;
        }

        Leg legAtFault(int connect) {
            int place = missedPlace(connect);
            if (place == NONE) return last;
            // The first LEG is MISSED only if it has no LOG.
            return place == 0 || !legs[place].logged ? legs[place] : legs[place - 1];
        }

        int leaveDay() {
            return first.leave / DAY_MINUTES;
        }

        int arriveDay() {
            return last.arrive / DAY_MINUTES;
        }
    }

    private static final class Tickets {
        static final int MOST = 20;

        final Ticket[] all;
        int size;

        Tickets() {
            all = new Ticket[MOST];
        }

        boolean isFull() {
            return size >= MOST;
        }

        Ticket find(int number) {
            return isOneOf(size, number) ? all[number] : null;
        }

        int add(Leg first) {
            all[size] = new Ticket(size, first);
            size++;
            return size - 1;
        }
    }

    private static final class Laws {
        static final int MOST = 30;
        static final int MOST_EXCUSES = 40;

        final int[] lands;
        final int[] fromDays;
        final int[] fromMinutes;
        final int[] fromMiles;
        final int[] sums;
        int size;
        final int[] excuseLands;
        final int[] excuseCauses;
        final int[] excuseDays;
        final int[] toldDays;
        final boolean[] excused;
        int excuses;

        Laws() {
            lands = new int[MOST];
            fromDays = new int[MOST];
            fromMinutes = new int[MOST];
            fromMiles = new int[MOST];
            sums = new int[MOST];
            excuseLands = new int[MOST_EXCUSES];
            excuseCauses = new int[MOST_EXCUSES];
            excuseDays = new int[MOST_EXCUSES];
            toldDays = new int[MOST_EXCUSES];
            excused = new boolean[MOST_EXCUSES];
        }

        boolean isFull() {
            return size >= MOST;
        }

        boolean isFullOfExcuses() {
            return excuses >= MOST_EXCUSES;
        }

        int add(int land, int day, int minutes, int miles, int sum) {
            lands[size] = land;
            fromDays[size] = day;
            fromMinutes[size] = minutes;
            fromMiles[size] = miles;
            sums[size] = sum;
            size++;
            return size - 1;
        }

        int addExcuse(int land, int cause, int day, int toldDay, boolean on) {
            excuseLands[excuses] = land;
            excuseCauses[excuses] = cause;
            excuseDays[excuses] = day;
            toldDays[excuses] = toldDay;
            excused[excuses] = on;
            excuses++;
            return excuses;
        }

        int landFor(Ticket ticket, int day) {
            int firstLand = ticket.first.from.land;
            if (hasRows(firstLand, day)) return firstLand;
            int lastLand = ticket.last.to.land;
            return hasRows(lastLand, day) ? lastLand : NONE;
        }

        private boolean hasRows(int land, int day) {
            for (int i = 0; i < size; i++) {
                if (isInForce(i, land, day)) return true;
            }
            return false;
        }

        private boolean isInForce(int row, int land, int day) {
            return lands[row] == land && fromDays[row] <= day;
        }

        int greatestSum(int land, int day, int minutes, int miles) {
            int greatest = 0;
            for (int i = 0; i < size; i++) {
                boolean holds = isInForce(i, land, day) && fromMinutes[i] <= minutes && fromMiles[i] <= miles;
                if (holds && sums[i] > greatest) greatest = sums[i];
            }
            return greatest;
        }

        /** Judged by what was known on the day of leaving: what was told later does not count. */
        boolean isExcused(int land, int cause, int leaveDay) {
            boolean says = false;
            for (int i = 0; i < excuses; i++) {
                boolean fits = excuseLands[i] == land && excuseCauses[i] == cause;
                if (fits && toldDays[i] <= leaveDay && excuseDays[i] <= leaveDay) says = excused[i];
            }
            return says;
        }
    }

    private static final class Bars {
        static final int MOST_STOPS = 20;
        static final int FIRST_BAR = 365;

        final int[] daysIn;
        final int[] stopLands;
        final int[] stopFroms;
        final int[] stopTos;
        int stops;

        Bars() {
            daysIn = new int[LANDS];
            Arrays.fill(daysIn, FIRST_BAR);
            stopLands = new int[MOST_STOPS];
            stopFroms = new int[MOST_STOPS];
            stopTos = new int[MOST_STOPS];
        }

        boolean isFull() {
            return stops >= MOST_STOPS;
        }

        int addStop(int land, int from, int to) {
            stopLands[stops] = land;
            stopFroms[stops] = from;
            stopTos[stops] = to;
            stops++;
            return stops;
        }

        /**
         * How many DAYS, both ends among them, are in no STOP of the LAND. It goes from STOP to STOP, so that
         * DAYS in several of them are left out once.
         */
        int daysThatRan(int land, int from, int to) {
            int ran = 0;
            int day = from;
            for (int i = 0; i <= stops && day <= to; i++) {
                int stop = nextStop(land, day);
                int stopFrom = stop == NONE ? to + 1 : Math.min(stopFroms[stop], to + 1);
                ran += Math.max(0, stopFrom - day);
                day = stop == NONE ? to + 1 : stopTos[stop] + 1;
            }
            return ran;
        }

        /** Of the STOPS that are not over by a DAY the one that begins first. */
        private int nextStop(int land, int day) {
            int next = NONE;
            for (int i = 0; i < stops; i++) {
                if (stopLands[i] != land || stopTos[i] < day) continue;
                if (next == NONE || stopFroms[i] < stopFroms[next]) next = i;
            }
            return next;
        }
    }

    private static final class Claim {
        final Ticket ticket;
        final int day;
        final int[] paid;
        int settled;

        Claim(Ticket ticket, int day) {
            this.ticket = ticket;
            this.day = day;
            paid = new int[PAYERS];
        }

        /** DUE of a PAYER: each one ahead in the row is asked first. */
        int partOf(int payer, int worth) {
            int open = worth;
            int part = 0;
            for (int i = 0; i < PAYERS && i <= payer; i++) {
                part = Math.min(ticket.owed[i], open);
                open -= part;
            }
            return part;
        }
    }

    private static final class Claims {
        static final int MOST = 30;
        static final int SETS = 1 << PAYERS;

        final Claim[] all;
        int size;
        final int[] balances;
        private final int[] parted;

        Claims() {
            all = new Claim[MOST];
            balances = new int[PAYERS];
            parted = new int[SETS];
        }

        boolean isFull() {
            return size >= MOST;
        }

        Claim find(int number) {
            return isOneOf(size, number) ? all[number] : null;
        }

        int add(Ticket ticket, int day) {
            all[size] = new Claim(ticket, day);
            ticket.claimed = true;
            size++;
            return size - 1;
        }

        void addToBalances(Claim claim, int worth) {
            for (int payer = 0; payer < PAYERS; payer++) {
                balances[payer] += claim.paid[payer] - claim.partOf(payer, worth);
            }
        }

        /**
         * A set of PAYERS that is 0 together needs one payment less than it has PAYERS. A BALANCE of 0 is
         * such a set by itself, so it may be counted among the others and adds nothing.
         */
        int fewestPayments() {
            int everybody = SETS - 1;
            if (togetherIn(everybody) != 0) return NONE;
            for (int set = 1; set < SETS; set++) {
                int most = 0;
                for (int payer = 0; payer < PAYERS; payer++) {
                    int without = set & ~(1 << payer);
                    if (without != set) most = Math.max(most, parted[without]);
                }
                parted[set] = togetherIn(set) == 0 ? most + 1 : most;
            }
            return PAYERS - parted[everybody];
        }

        private int togetherIn(int set) {
            int together = 0;
            for (int payer = 0; payer < PAYERS; payer++) {
                if ((set & (1 << payer)) != 0) together += balances[payer];
            }
            return together;
        }
    }

    private static final class Cases {
        static final int MOST = 40;
        static final int NOT_LIKE = -1;

        final int[] lands;
        final int[] causes;
        final int[] minutesLate;
        final int[] milesFlown;
        final boolean[] wins;
        final int[] costs;
        int size;
        /** How FAR each CASE is from what was measured last. */
        private final int[] far;
        int chosen;
        int chosenWon;
        int chosenCost;

        Cases() {
            lands = new int[MOST];
            causes = new int[MOST];
            minutesLate = new int[MOST];
            milesFlown = new int[MOST];
            wins = new boolean[MOST];
            costs = new int[MOST];
            far = new int[MOST];
        }

        boolean isFull() {
            return size >= MOST;
        }

        int add(int land, int cause, int minutes, int miles, boolean won, int cost) {
            lands[size] = land;
            causes[size] = cause;
            minutesLate[size] = minutes;
            milesFlown[size] = miles;
            wins[size] = won;
            costs[size] = cost;
            size++;
            return size - 1;
        }

        void measure(int land, int cause, int minutes, int miles) {
            for (int i = 0; i < size; i++) {
                boolean like = lands[i] == land && causes[i] == cause;
                int away = Math.abs(minutesLate[i] - minutes) / 10 + Math.abs(milesFlown[i] - miles) / 50;
                far[i] = like ? away : NOT_LIKE;
            }
        }

        void choose(int most) {
            chosen = 0;
            chosenWon = 0;
            chosenCost = 0;
            for (int i = 0; i < most; i++) {
                int next = leastFar();
                if (next == NONE) return;
                chosen++;
                if (wins[next]) chosenWon++;
                chosenCost += costs[next];
                far[next] = NOT_LIKE;
            }
        }

        private int leastFar() {
            int least = NONE;
            for (int i = 0; i < size; i++) {
                if (far[i] == NOT_LIKE) continue;
                if (least == NONE || far[i] < far[least]) least = i;
            }
            return least;
        }

        /** Not divided, so that nothing of it is cut. */
        int goingOnTimesChosen(int worth) {
            return worth * chosenWon - chosenCost;
        }
    }
}
