/** Runs of calls from which tests start. */
final class Scenes {
    /**
     * Something of every kind is told, and nothing is left as it is at first where that would hide a change:
     * DAY 12; LEGS 0 to 5, the last two without a LOG; travellers 0 to 3, the last one without a CLAIM; CLAIMS 0 to
     * 2; 4 rows of LAWS, 4 excuses, 2 STOPS, 6 CASES; and REFUSALS of each kind.
     */
    static final String BUSY = """
        land 0 1 = 0
        land 1 2 = 0
        land 2 3 = 0
        land 9 1 = 0
        miles 0 1 700 = 0
        miles 0 2 1200 = 0
        miles 1 2 400 = 0
        miles 8 9 31 = 0
        seen 0 1 20 = 1
        seen 8 9 -5 = 1
        seen 9 8 6 = 0
        set 0 20 = 30
        set 1 40 = 60
        set 2 50 = 45
        set 3 3 = 5
        leg 0 1 0 0 1500 1600 = 0
        leg 1 2 0 1 1650 1750 = 1
        leg 2 0 0 0 1800 1900 = 2
        leg 0 2 1 1 1500 1700 = 3
        leg 1 2 2 2 1700 1900 = 4
        leg 0 1 3 3 3000 3100 = 5
        log 0 1520 1640 = 1
        log 1 1700 1830 = 1
        log 2 1900 2010 = 1
        log 3 1510 1750 = 1
        cause 0 1 = 0
        cause 1 2 = 0
        cause 2 3 = 0
        cause 3 4 = 0
        cause 5 5 = 0
        traveller 0 = 0
        then 0 1 = 2
        then 0 2 = 3
        traveller 3 = 1
        traveller 4 = 2
        traveller 0 = 3
        law 1 0 10 1000 300 = 0
        law 1 3 0 0 200 = 1
        law 2 5 0 0 150 = 2
        law 3 7 0 0 90 = 3
        excuse 1 1 1 true = 1
        excuse 2 0 0 true = 2
        excuse 1 1 1 false = 3
        days 10 = 10
        excuse 1 4 0 true = 4
        bar 1 30 = 365
        bar 3 7 = 365
        stop 1 4 5 = 1
        stop 2 1 2 = 2
        claim 1 = 0
        days 2 = 12
        claim 0 = 1
        claim 2 = 2
        owes 0 0 100 = 0
        owes 1 0 40 = 0
        owes 2 0 500 = 0
        owes 3 1 250 = 0
        owes 4 1 250 = 0
        pay 0 0 300 = 300
        pay 0 4 5 = 305
        pay 1 2 60 = 60
        judged 1 4 50 1100 true 20 = 0
        judged 1 4 40 1200 false 30 = 1
        judged 1 1 100 0 true 10 = 2
        judged 2 1 100 0 true 10 = 3
        judged 1 4 500 1100 true 15 = 4
        judged 1 4 55 1200 false 5 = 5
        off 10 = 1000000001
        set 4 0 = -2
        claimOf 0 6 = -2
        claim 0 = -3
        days -1 = -4
        days -2 = -4
        days -3 = -4
        legOf 4 0 = -5
        days 3989 = -6
        bar 0 3001 = -6
        """;

    private Scenes() {
    }

    static Scene busy(Due due) {
        return Scene.of(due, "busy", BUSY);
    }

    /** As many of each kind as there may be (CLAIMS are as many as travellers), on DAY 12. */
    static String full() {
        StringBuilder lines = new StringBuilder();
        for (int i = 0; i < 40; i++) {
            int leave = 1000 + i * 50;
            add(lines, "leg", i % 3, (i + 1) % 3, i % 6, i % 5, leave, leave + 40, i);
            add(lines, "log", i, leave + i, leave + 40 + 2 * i, 1);
            add(lines, "judged", i % 4, i % 6, i * 10, i * 50, "true", i, i);
            add(lines, "excuse", i % 4, i % 6, i % 3, i % 5 == 0, i + 1);
        }
        for (int i = 0; i < 20; i++) {
            add(lines, "traveller", i, i);
            add(lines, "stop", i % 4, i, i + 1, i + 1);
        }
        for (int i = 0; i < 30; i++) add(lines, "law", i % 3, i % 12, i * 2, i * 10, i * 9, i);
        add(lines, "days", 12, 12);
        for (int i = 0; i < 20; i++) {
            add(lines, "claim", i, i);
            add(lines, "owes", i % 5, i, i * 10, 0);
            add(lines, "pay", i, (i + 1) % 5, 250, 250);
        }
        return lines.toString();
    }

    private static void add(StringBuilder lines, String name, Object... values) {
        lines.append(name);
        for (int i = 0; i < values.length; i++) lines.append(i == values.length - 1 ? " = " : " ").append(values[i]);
        lines.append('\n');
    }

    /** The same line so many times, with the number of the time, from 0 on, for each '@'. */
    static String times(int many, String line) {
        StringBuilder lines = new StringBuilder();
        for (int i = 0; i < many; i++) lines.append(line.replace("@", Integer.toString(i))).append('\n');
        return lines.toString();
    }
}
