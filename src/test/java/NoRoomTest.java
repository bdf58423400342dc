/** The most that there may be of each kind: the last one is taken and counts, one more is refused. */
public final class NoRoomTest {
    public static void main(String[] args) {
        Due due = new Due();
        legs(due);
        travellers(due);
        ticket(due);
        laws(due);
        excuses(due);
        stops(due);
        claims(due);
        cases(due);
        days(due);
        due.end();
    }

    /** "LEGS have numbers from 0 on (40 at most)". */
    private static void legs(Due due) {
        Scene almost = Scene.of(due, "39 LEGS", Scenes.times(39, "leg 0 1 1 1 @ 100 = @"));
        almost.takes("leg 0 1 1 1 0 100 = 39").refuses("legOf 39 0 = -1");
        Scene full = almost.with("40", "leg 2 0 2 2 0 1 = 39\ntraveller 0 = 0\n");
        full.refuses("""
            leg 0 1 0 0 100 200 = -6
            leg 0 1 0 0 100 100 = -4
            leg 0 1 0 0 -1 200 = -4
            leg 0 1 0 0 100 20001 = -6
            leg 1 1 0 0 100 200 = -1
            leg 0 1 6 0 100 200 = -1
            leg 0 10 0 0 100 100 = -1
            log 40 0 0 = -1
            cause 40 0 = -1
            legOf 40 0 = -1
            ahead 40 false = -1
            minutes 40 0 = -1
            saved 40 0 = -1
            traveller 40 = -1
            then 0 40 = -1
            legOf 39 0 = -5
            """)
            .takes("""
            count 1 = 40
            log 39 0 5 = 1
            legOf 39 0 = 4
            cause 39 5 = 0
            minutes 39 5 = 4
            saved 39 0 = 0
            traveller 39 = 1
            soonest 1 = 5
            blame 1 = 5
            count 2 = 1
            """);
        Script.of(due, "the last LEG counts", Scenes.times(39, "leg 0 1 1 1 @ 100 = @") + """
            leg 2 0 1 1 1 2 = 39
            set 0 0 = 30
            set 1 0 = 60
            ahead 1 false = -9
            ahead 2 false = 39
            ahead 2 true = 39
            traveller 2 = 0
            log 38 38 300 = 1
            soonest 0 = 300
            log 37 37 299 = 1
            soonest 0 = 299
            traveller 39 = 1
            then 1 38 = -3
            set 2 36 = 45
            then 1 38 = 2
            missed 1 = 0
            soonest 1 = -9
            log 39 1 2 = 1
            missed 1 = -9
            soonest 1 = 300
            """ + Scenes.times(37, "log @ @ 299 = 1") + """
            count 2 = 40
            log 0 37 298 = 0
            log 38 37 300 = 0
            missed 1 = 1
            soonest 1 = 298
            """);
    }

    /** "TRAVELLERS have numbers from 0 on (20 at most)". */
    private static void travellers(Due due) {
        Scene almost = Scene.of(due, "19 travellers", "leg 0 1 0 0 100 200 = 0\nlog 0 100 210 = 1\n" + Scenes.times(19, "traveller 0 = @"));
        almost.takes("traveller 0 = 19").refuses("missed 19 = -1");
        almost.with("20", "traveller 0 = 19\nclaim 0 = 0\n")
            .refuses("""
            traveller 0 = -6
            traveller 1 = -1
            traveller -1 = -1
            then 20 0 = -1
            missed 20 = -1
            soonest 20 = -1
            hours 20 = -1
            blame 20 = -1
            sum 20 0 0 = -1
            claim 20 = -1
            owes 0 20 0 = -1
            """)
            .takes("""
            count 3 = 20
            missed 19 = -9
            soonest 19 = 210
            hours 19 = 10
            blame 19 = 0
            sum 19 0 1 = -9
            owes 4 19 3 = 0
            owes 4 19 4 = 3
            claim 19 = 1
            claimOf 1 0 = 19
            """);
    }

    /** "in a row (4 at most, ..)"; "-6 there are 4." */
    private static void ticket(Due due) {
        Scene three = Scene.of(due, "3 on a ticket", """
            leg 0 1 0 0 100 200 = 0
            leg 1 2 0 0 300 400 = 1
            leg 2 3 0 0 500 600 = 2
            leg 3 4 0 0 700 800 = 3
            leg 4 5 0 0 900 950 = 4
            leg 4 5 0 0 844 950 = 5
            traveller 0 = 0
            then 0 1 = 2
            then 0 2 = 3
            """);
        three.takes("then 0 3 = 4");
        three.with("4", "then 0 3 = 4")
            .refuses("""
            then 0 4 = -6                      # it follows, but there is no room
            then 0 5 = -3                      # it does not even follow
            then 0 3 = -3
            then 0 6 = -1
            then 1 4 = -1
            """)
            .takes("""
            log 0 100 200 = 1
            log 1 300 400 = 1
            log 2 500 600 = 1
            missed 0 = 3                       # the last place
            log 3 700 810 = 1
            missed 0 = -9
            soonest 0 = 810
            hours 0 = 10
            miles 0 4 9 = 0
            law 0 0 0 9 5 = 0
            sum 0 0 0 = 5
            """);
    }

    /** "LAWS: rows have numbers from 0 on (30 at most)". */
    private static void laws(Due due) {
        Scene almost = Scene.of(due, "29 rows", "leg 0 1 0 0 100 200 = 0\ntraveller 0 = 0\ndays 1 = 1\n" + Scenes.times(29, "law 1 1 0 0 @ = @"));
        almost.takes("law 0 1 0 0 9 = 29\nsum 0 1 1 = 0\nsum 0 1 0 = 9\n");
        almost.with("30", "law 0 2 0 0 9 = 29")
            .refuses("""
            law 0 2 0 0 9 = -6
            law 3 4000 9999 9999 9999 = -6
            law 0 0 0 0 9 = -4
            law 0 2 -1 0 9 = -4
            law 4 2 0 0 9 = -1
            law 4 0 0 0 9 = -1
            """)
            .takes("""
            count 4 = 30
            sum 0 1 1 = -9
            sum 0 2 1 = 0
            sum 0 2 0 = 9
            land 0 1 = 0
            sum 0 2 0 = 28
            claim 0 = 0
            claimOf 0 3 = 28
            """);
    }

    /** "-6 (40, too)." of excuses, of all LANDS together. */
    private static void excuses(Due due) {
        StringBuilder lines = new StringBuilder("leg 0 1 0 0 100 200 = 0\nlog 0 100 300 = 1\ntraveller 0 = 0\nlaw 0 0 0 0 9 = 0\n");
        for (int i = 1; i < 40; i++) lines.append("excuse ").append(i % 4).append(" 0 0 false = ").append(i).append('\n');
        Scene almost = Scene.of(due, "39 excuses", lines.toString());
        almost.takes("sum 0 0 2 = 0\nexcuse 0 0 0 true = 40\nsum 0 0 2 = 1\nsum 0 0 0 = 0\n");
        almost.with("40", "excuse 3 5 4000 true = 40")
            .refuses("""
            excuse 0 0 0 true = -6
            excuse 1 1 1 false = -6
            excuse 0 0 -1 true = -4
            excuse 4 0 0 true = -1
            excuse 0 6 -1 true = -1
            """)
            .takes("sum 0 0 2 = 0\nsum 0 0 0 = 9\n");
    }

    /** "-6 (DAYS; 20, too)." of STOPS, of all LANDS together. */
    private static void stops(Due due) {
        StringBuilder lines = new StringBuilder("leg 0 1 0 0 100 200 = 0\ntraveller 0 = 0\nlaw 0 0 0 0 9 = 0\nbar 0 1 = 365\ndays 2 = 2\nclaim 0 = 0\n");
        for (int i = 1; i < 20; i++) lines.append("stop ").append(i % 3 + 1).append(" 0 4000 = ").append(i).append('\n');
        Scene almost = Scene.of(due, "19 STOPS", lines.toString());
        almost.takes("claimOf 0 2 = 1\nstop 0 1 1 = 20\nclaimOf 0 2 = 0\nclaimOf 0 3 = 9\ncount 6 = 0\n");
        almost.with("20", "stop 3 0 0 = 20")
            .refuses("""
            stop 0 1 1 = -6
            stop 0 0 4000 = -6
            stop 0 1 0 = -4
            stop 0 -1 0 = -4
            stop 4 1 1 = -1
            stop -1 1 0 = -1
            """)
            .takes("claimOf 0 2 = 1\nclaimOf 0 3 = 0\ncount 6 = 1\n");
    }

    /** "CLAIMS (30 at most): of a traveller, now; once": with 20 travellers there cannot be more than 20. */
    private static void claims(Due due) {
        Scene almost = Scene.of(due, "19 CLAIMS", "leg 0 1 0 0 100 200 = 0\nlaw 0 0 0 0 9 = 0\n" + Scenes.times(20, "traveller 0 = @")
            + Scenes.times(19, "claim @ = @"));
        almost.takes("claim 19 = 19").refuses("claimOf 19 0 = -1");
        almost.with("20", "claim 19 = 19")
            .refuses("""
            claim 0 = -3
            claim 19 = -3
            claim 20 = -1
            claim -1 = -1
            claimOf 20 0 = -1
            pay 20 0 1 = -1
            due 20 0 = -1
            odds 20 0 = 1000000001
            good 20 0 = -1
            """)
            .takes("""
            count 5 = 20
            claimOf 19 0 = 19
            claimOf 19 3 = 9
            owes 4 19 9 = 0
            due 19 4 = 9
            pay 19 0 9 = 9
            balance 0 = 9                      # of the last one
            balance 4 = -9
            back = 1
            pay 0 1 9 = 9
            owes 0 0 9 = 0
            balance 0 = 0
            balance 1 = 9
            back = 1
            bar 0 1 = 365
            count 6 = 0
            """);
        Script.of(due, "all 20 BARRED", "leg 0 1 0 0 100 200 = 0\nlaw 0 0 0 0 9 = 0\ndays 366 = 366\n" + Scenes.times(20, "traveller 0 = @")
            + Scenes.times(20, "claim @ = @") + "count 6 = 20\nbar 0 366 = 365\ncount 6 = 0\n");
        StringBuilder paid = new StringBuilder("leg 0 1 0 0 100 200 = 0\n").append(Scenes.times(20, "traveller 0 = @\nclaim @ = @"));
        for (int i = 1; i <= 10; i++) paid.append(Scenes.times(20, "pay @ 0 9999 = " + i * 9999));
        Script.of(due, "the greatest BALANCE", paid + Scenes.times(20, "pay @ 0 9 = 99999") + "balance 0 = 1999980\nback = -9\n");
    }

    /** "CASES that were judged (40 at most)". */
    private static void cases(Due due) {
        Scene almost = Scene.of(due, "39 CASES", """
            leg 0 1 0 0 100 200 = 0
            log 0 100 300 = 1
            traveller 0 = 0
            law 0 0 0 0 1000 = 0
            claim 0 = 0
            set 3 1 = 5
            """ + Scenes.times(39, "judged 0 0 500 @ false @ = @"));
        almost.takes("odds 0 2 = 0\njudged 0 0 100 0 true 7 = 39\nodds 0 0 = 1\nodds 0 2 = 993\ncount 7 = 40\n");
        almost.with("40", "judged 0 0 100 0 true 8 = 39")
            .refuses("""
            judged 0 0 100 0 true 9 = -6
            judged 3 5 9999 9999 false 9999 = -6
            judged 0 0 -1 0 true 9 = -4
            judged 0 0 100 0 true -1 = -4
            judged 4 0 100 0 true 9 = -1
            judged 0 6 -1 0 true 9 = -1
            """)
            .takes("""
            odds 0 0 = 1
            odds 0 2 = 992
            set 3 9 = 1
            odds 0 1 = 9
            odds 0 2 = 964                     # 1000 less 8 and 0 to 7
            good 0 107 = 0
            good 0 108 = 1
            """);
    }

    /** "DAYS go on from 0 (4000 at most)". */
    private static void days(Due due) {
        Scene.of(due, "DAY 3999", "days 3999 = 3999").takes("days 1 = 4000").refuses("days 2 = -6");
        Scene.of(due, "DAY 4000", "leg 0 1 0 0 100 200 = 0\nlog 0 100 300 = 1\ntraveller 0 = 0\ndays 4000 = 4000\n")
            .takes("""
            law 0 4000 0 0 5 = 0
            sum 0 4000 0 = 5
            sum 0 3999 0 = 0
            excuse 0 0 0 true = 1
            sum 0 4000 2 = 0
            stop 0 4000 4000 = 1
            claim 0 = 0
            claimOf 0 1 = 4000
            claimOf 0 2 = 1
            bar 0 3000 = 365
            claimOf 0 2 = 1
            stop 0 1 999 = 2                   # 3000 are left
            claimOf 0 2 = 0
            claimOf 0 3 = 5
            """)
            .refuses("""
            days 1 = -6
            law 0 3999 0 0 5 = -4
            law 0 4001 0 0 5 = -6
            """);
    }
}
