/** Promises 26 to 32 and what the terms say of CLAIMS and PAYERS: each edge that a sentence names, on both sides. */
public final class EdgesOfClaimsTest {
    public static void main(String[] args) {
        Due due = new Due();
        Scene busy = Scenes.busy(due);
        claim(due, busy);
        claimOf(busy);
        owes(busy);
        pay(due, busy);
        due(busy);
        balance(busy);
        barredByDays(due);
        dayOfArrival(due);
        withoutStops(due);
        stopsOfOthers(due);
        lawOnTheDay(due);
        worth(due);
        over(due);
        row(due);
        settledEnough(due);
        back(due);
        due.end();
    }

    /** "of a traveller, now; once"; "-1; -3 the traveller has one; -6 30." */
    private static void claim(Due due, Scene busy) {
        busy.takes("""
            claim 3 = 3
            claimOf 3 0 = 3
            claimOf 3 1 = 12
            count 5 = 4
            """)
            .refuses("""
            claim -1 = -1
            claim 4 = -1
            claim -2147483648 = -1
            claim 2147483647 = -1
            claim 0 = -3
            claim 1 = -3
            claim 2 = -3
            """);
        Scene.of(due, "the last DAY", "leg 0 1 0 0 100 200 = 0\ntraveller 0 = 0\ndays 4000 = 4000\n")
            .takes("claim 0 = 0\nclaimOf 0 1 = 4000\n");
        Script.of(due, "now", """
            leg 0 1 0 0 100 20000 = 0
            traveller 0 = 0
            traveller 0 = 1
            claim 1 = 0                      # ahead of its leaving, too
            claimOf 0 1 = 0
            days 3 = 3
            claim 0 = 1
            claimOf 0 1 = 0
            claimOf 1 1 = 3
            claim 1 = -3
            claim 0 = -3
            count 13 = 2
            """);
    }

    /** "-1; -2." */
    private static void claimOf(Scene busy) {
        busy.leavesAllBut("", """
            claimOf 0 0 = 1
            claimOf 0 1 = 10
            claimOf 0 2 = 0
            claimOf 0 3 = 300
            claimOf 0 4 = 305
            claimOf 0 5 = 5
            claimOf 2 0 = 2
            claimOf 2 5 = 0
            """)
            .refuses("""
            claimOf -1 0 = -1
            claimOf 3 0 = -1
            claimOf -2147483648 0 = -1
            claimOf 2147483647 0 = -1
            claimOf 0 -1 = -2
            claimOf 0 6 = -2
            claimOf 0 -2147483648 = -2
            claimOf 0 2147483647 = -2
            claimOf 3 6 = -1                 # the first that fits
            claimOf -1 -1 = -1
            """);
    }

    /** "for each traveller each may owe up to a sum (told; 0 .. 9999)"; "-1; -4; -6." */
    private static void owes(Scene busy) {
        busy.takes("""
            owes 0 0 0 = 100
            owes 0 0 9999 = 0
            owes 4 3 9999 = 0                # 0 at first
            owes 4 3 0 = 9999
            owes 4 1 1 = 250
            """)
            .refuses("""
            owes -1 0 5 = -1
            owes 5 0 5 = -1
            owes 0 -1 5 = -1
            owes 0 4 5 = -1
            owes -2147483648 0 5 = -1
            owes 2147483647 0 5 = -1
            owes 0 -2147483648 5 = -1
            owes 0 2147483647 5 = -1
            owes 0 0 -1 = -4
            owes 0 0 -2147483648 = -4
            owes 0 0 10000 = -6
            owes 0 0 2147483647 = -6
            owes 5 0 -1 = -1                 # the first that fits
            owes 0 4 -1 = -1
            owes 5 0 10000 = -1
            owes 0 -1 10000 = -1
            """);
    }

    /** "-1; -4 below 1; -6 above 9999, SETTLED would be above 99999." */
    private static void pay(Due due, Scene busy) {
        busy.takes("""
            pay 0 0 1 = 306
            pay 0 4 9999 = 10305
            pay 2 4 9999 = 9999
            """)
            .refuses("""
            pay -1 0 5 = -1
            pay 3 0 5 = -1
            pay 0 -1 5 = -1
            pay 0 5 5 = -1
            pay -2147483648 0 5 = -1
            pay 2147483647 0 5 = -1
            pay 0 -2147483648 5 = -1
            pay 0 2147483647 5 = -1
            pay 0 0 0 = -4
            pay 0 0 -1 = -4
            pay 0 0 -2147483648 = -4
            pay 0 0 10000 = -6
            pay 0 0 2147483647 = -6          # with what is paid it would wrap around
            pay 3 0 0 = -1                   # the first that fits
            pay 0 5 0 = -1
            pay 3 0 10000 = -1
            pay 0 -1 10000 = -1
            """);
        String paid = "leg 0 1 0 0 100 200 = 0\ntraveller 0 = 0\ntraveller 0 = 1\nclaim 0 = 0\nclaim 1 = 1\n";
        for (int i = 1; i <= 10; i++) paid += "pay 0 " + i % 5 + " 9999 = " + i * 9999 + "\n";
        Scene.of(due, "99990 paid", paid)
            .takes("pay 0 0 9 = 99999")
            .takes("pay 0 4 8 = 99998\npay 0 4 1 = 99999\n")
            .takes("pay 1 0 9999 = 9999")    // each CLAIM has a SETTLED of its own
            .refuses("""
            pay 0 0 10 = -6
            pay 0 4 9999 = -6
            pay 0 0 0 = -4
            pay 0 5 10 = -1
            pay 2 0 10 = -1
            """)
            .with("99999", "pay 0 3 9 = 99999")
            .refuses("""
            pay 0 3 1 = -6
            pay 0 0 1 = -6
            pay 0 0 0 = -4
            """);
    }

    /** "-1." */
    private static void due(Scene busy) {
        busy.leavesAllBut("", """
            due 0 0 = 0
            due 0 3 = 250
            due 0 4 = 50
            due 2 4 = 0
            """)
            .refuses("""
            due -1 0 = -1
            due 3 0 = -1
            due 0 -1 = -1
            due 0 5 = -1
            due 3 5 = -1
            due -2147483648 0 = -1
            due 2147483647 0 = -1
            due 0 -2147483648 = -1
            due 0 2147483647 = -1
            """);
    }

    /** "Refused as told: -1.", with "REFUSALS are 1000000000 less them"; back is never refused. */
    private static void balance(Scene busy) {
        busy.leavesAllBut("", """
            balance 0 = 300
            balance 3 = -250
            balance 4 = -45
            back = -9
            """)
            .refuses("""
            balance -1 = 1000000001
            balance 5 = 1000000001
            balance -2147483648 = 1000000001
            balance 2147483647 = 1000000001
            """);
    }

    /** Planned to arrive on DAY 0: on DAY n there are n DAYS behind that, the last one too. */
    private static void barredByDays(Due due) {
        Scene claimed = Scene.of(due, "BARRED if more DAYS than that lie behind, up to the DAY it was made, that one too", """
            leg 0 1 0 0 100 200 = 0
            traveller 0 = 0
            law 0 0 0 0 70 = 0
            """);
        for (int days : new int[] {1, 2, 364, 365, 366, 2999, 3000}) {
            String bar = "bar 0 " + days + " = 365\n";
            claimed.with("as many as " + days, bar + "days " + days + " = " + days)
                .takes("claim 0 = 0\nclaimOf 0 2 = 0\nclaimOf 0 3 = 70\ncount 6 = 0\n");
            claimed.with("more than " + days, bar + "days " + (days + 1) + " = " + (days + 1))
                .takes("claim 0 = 0\nclaimOf 0 2 = 1\nclaimOf 0 3 = 0\ncount 6 = 1\n");
        }
        claimed.with("365 at first", "days 365 = 365").takes("claim 0 = 0\nclaimOf 0 2 = 0\n");
        claimed.with("365 at first, one more", "days 366 = 366").takes("claim 0 = 0\nclaimOf 0 2 = 1\n");
        claimed.with("on the DAY of the arrival", "bar 0 1 = 365").takes("claim 0 = 0\nclaimOf 0 2 = 0\n");
        claimed.with("the last DAY", "days 4000 = 4000\nbar 0 3000 = 365").takes("claim 0 = 0\nclaimOf 0 2 = 1\n");
        claimed.with("by the DAY it was made", "bar 0 1 = 365\ndays 1 = 1\nclaim 0 = 0\ndays 3999 = 4000")
            .takes("claimOf 0 2 = 0\nclaimOf 0 3 = 70\ncount 6 = 0\n");
    }

    private static void dayOfArrival(Due due) {
        Script.of(due, "behind the DAY of the planned arrival of the last LEG, by 1440, cut", """
            leg 0 1 0 0 100 1439 = 0
            leg 0 1 0 0 100 1440 = 1
            leg 0 1 0 0 100 2879 = 2
            leg 0 1 0 0 100 2880 = 3
            leg 1 2 0 0 1500 2880 = 4
            traveller 0 = 0
            traveller 1 = 1
            traveller 2 = 2
            traveller 3 = 3
            traveller 0 = 4
            then 4 4 = 2
            law 0 0 0 0 70 = 0
            bar 0 1 = 365
            log 0 100 9000 = 1               # not the right arrival
            days 2 = 2
            claim 0 = 0
            claim 1 = 1
            claimOf 0 2 = 1                  # DAYS 1 and 2
            claimOf 1 2 = 0                  # DAY 2
            days 1 = 3
            claim 2 = 2
            claim 3 = 3
            claim 4 = 4
            claimOf 2 2 = 1                  # DAYS 2 and 3
            claimOf 3 2 = 0                  # DAY 3
            claimOf 4 2 = 0                  # by the last LEG
            count 6 = 2
            """);
        Script.of(due, "made ahead of the planned arrival", """
            leg 0 1 0 0 100 20000 = 0
            traveller 0 = 0
            traveller 0 = 1
            traveller 0 = 2
            law 0 0 0 0 70 = 0
            bar 0 1 = 365
            claim 0 = 0
            days 14 = 14                     # 20000 is on DAY 13
            claim 1 = 1
            days 1 = 15
            claim 2 = 2
            claimOf 0 2 = 0
            claimOf 1 2 = 0
            claimOf 2 2 = 1
            """);
    }

    /** Planned to arrive on DAY 0, made on DAY 5: without STOPS there are the DAYS 1 to 5. */
    private static void withoutStops(Due due) {
        Scene five = Scene.of(due, "without those that are in a STOP", """
            leg 0 1 0 0 100 200 = 0
            traveller 0 = 0
            law 0 0 0 0 70 = 0
            days 5 = 5
            claim 0 = 0
            """);
        ran(five, 5, "");
        ran(five, 5, "stop 0 0 0 = 1\n");        // the DAY of the arrival is none of them
        ran(five, 5, "stop 0 6 6 = 1\n");        // nor is the DAY behind the last one
        ran(five, 5, "stop 0 6 4000 = 1\n");
        ran(five, 4, "stop 0 1 1 = 1\n");
        ran(five, 4, "stop 0 0 1 = 1\n");
        ran(five, 4, "stop 0 5 5 = 1\n");
        ran(five, 4, "stop 0 5 4000 = 1\n");
        ran(five, 4, "stop 0 3 3 = 1\n");
        ran(five, 3, "stop 0 2 3 = 1\n");
        ran(five, 2, "stop 0 2 4 = 1\n");
        ran(five, 1, "stop 0 1 4 = 1\n");
        ran(five, 1, "stop 0 2 5 = 1\n");
        ran(five, 1, "stop 0 0 4 = 1\n");
        ran(five, 1, "stop 0 2 9 = 1\n");
        ran(five, 0, "stop 0 1 5 = 1\n");
        ran(five, 0, "stop 0 0 4000 = 1\n");
        ran(five, 4, "stop 0 3 3 = 1\nstop 0 3 3 = 2\n");      // once, though it is in two
        ran(five, 2, "stop 0 2 3 = 1\nstop 0 3 4 = 2\n");
        ran(five, 2, "stop 0 3 4 = 1\nstop 0 2 3 = 2\n");
        ran(five, 2, "stop 0 2 4 = 1\nstop 0 3 3 = 2\n");
        ran(five, 2, "stop 0 3 3 = 1\nstop 0 2 4 = 2\n");
        ran(five, 3, "stop 0 4 4 = 1\nstop 0 2 2 = 2\n");
        ran(five, 3, "stop 0 5 5 = 1\nstop 0 1 1 = 2\n");
        ran(five, 2, "stop 0 5 5 = 1\nstop 0 1 1 = 2\nstop 0 3 3 = 3\n");
        ran(five, 0, "stop 0 1 2 = 1\nstop 0 3 3 = 2\nstop 0 4 5 = 3\n");
    }

    /** So many DAYS are left, so that a BAR of one DAY less bars, and one of as many does not. */
    private static void ran(Scene scene, int days, String stops) {
        Scene stopped = scene.with(days + " by " + stops.trim(), stops);
        if (days > 0) stopped.takes("bar 0 " + days + " = 365\nclaimOf 0 2 = 0\nclaimOf 0 3 = 70\n");
        if (days > 1) stopped.takes("bar 0 " + (days - 1) + " = 365\nclaimOf 0 2 = 1\nclaimOf 0 3 = 0\n");
        if (days <= 1) stopped.takes("bar 0 1 = 365\nclaimOf 0 2 = 0\n");
    }

    private static void stopsOfOthers(Due due) {
        Script.of(due, "a STOP of that LAND", """
            land 0 1 = 0
            land 1 3 = 0
            leg 0 1 0 0 100 200 = 0
            traveller 0 = 0
            law 3 0 0 0 70 = 0
            bar 3 1 = 365
            days 2 = 2
            claim 0 = 0
            claimOf 0 2 = 1
            stop 0 0 9 = 1
            stop 1 0 9 = 2
            stop 2 0 9 = 3
            claimOf 0 2 = 1
            stop 3 2 2 = 4
            claimOf 0 2 = 0
            """);
    }

    private static void lawOnTheDay(Due due) {
        Script.of(due, "the LAW's LAND (on the DAY it was made)", """
            land 0 1 = 0
            land 1 3 = 0
            leg 0 1 0 0 100 200 = 0
            traveller 0 = 0
            traveller 0 = 1
            law 3 0 0 0 70 = 0
            law 1 3 0 0 80 = 1
            bar 1 1 = 365
            days 2 = 2
            claim 0 = 0
            days 1 = 3
            claim 1 = 1
            claimOf 0 2 = 0                  # by the LAND 3: 365
            claimOf 0 3 = 70
            claimOf 1 2 = 1                  # by the LAND 1: 1
            claimOf 1 3 = 0
            bar 1 3 = 1
            claimOf 1 3 = 80
            bar 3 1 = 365
            claimOf 0 2 = 1
            claimOf 1 2 = 0
            count 6 = 1
            """);
        Script.of(due, "without a LAW there is no BAR", """
            leg 0 1 0 0 100 200 = 0
            traveller 0 = 0
            bar 0 1 = 365
            days 9 = 9
            claim 0 = 0
            law 0 10 0 0 70 = 0              # behind the DAY it was made
            claimOf 0 2 = 0
            claimOf 0 3 = 0
            count 6 = 0
            law 0 9 0 0 60 = 1
            claimOf 0 2 = 1
            count 6 = 1
            """);
    }

    private static void worth(Due due) {
        Script.of(due, "WORTH: SUM on the DAY it was made; 0 if BARRED", """
            leg 0 1 0 0 100 200 = 0
            log 0 100 300 = 1
            traveller 0 = 0
            law 0 2 0 0 70 = 0
            law 0 3 0 0 90 = 1
            days 2 = 2
            claim 0 = 0
            days 2 = 4
            claimOf 0 3 = 70
            excuse 0 0 0 true = 1            # too late for it
            claimOf 0 3 = 70
            bar 0 1 = 365
            claimOf 0 3 = 0
            bar 0 2 = 1
            claimOf 0 3 = 70
            """);
        Script.of(due, "WORTH of one that is EXCUSED", """
            leg 0 1 0 0 100 200 = 0
            log 0 100 300 = 1
            traveller 0 = 0
            law 0 0 0 0 70 = 0
            claim 0 = 0
            claimOf 0 3 = 70
            excuse 0 0 0 true = 1
            claimOf 0 3 = 0
            claimOf 0 2 = 0
            """);
    }

    private static void over(Due due) {
        Script.of(due, "OVER: what is paid beyond WORTH", """
            leg 0 1 0 0 100 200 = 0
            traveller 0 = 0
            law 0 0 0 0 70 = 0
            claim 0 = 0
            claimOf 0 4 = 0                  # nothing paid yet
            claimOf 0 5 = 0
            pay 0 0 69 = 69
            claimOf 0 5 = 0
            pay 0 1 1 = 70
            claimOf 0 5 = 0
            pay 0 4 1 = 71
            claimOf 0 4 = 71
            claimOf 0 5 = 1
            law 0 0 0 0 71 = 1
            claimOf 0 5 = 0
            bar 0 1 = 365
            days 5 = 5
            claimOf 0 5 = 0
            """);
    }

    private static void row(Due due) {
        Script.of(due, "the first is asked first, then the next one for what is left of WORTH", """
            leg 0 1 0 0 100 200 = 0
            traveller 0 = 0
            traveller 0 = 1
            law 0 0 0 0 100 = 0
            claim 1 = 0                      # of traveller 1
            owes 0 0 7 = 0
            due 0 0 = 0                      # nobody owes that one anything yet
            due 0 4 = 0
            owes 4 1 9999 = 0
            due 0 4 = 100
            owes 3 1 99 = 0
            due 0 3 = 99
            due 0 4 = 1
            owes 3 1 100 = 99
            due 0 3 = 100
            due 0 4 = 0
            owes 3 1 101 = 100
            due 0 3 = 100
            due 0 4 = 0
            owes 0 1 1 = 0
            due 0 0 = 1
            due 0 3 = 99
            owes 2 1 99 = 0
            due 0 2 = 99
            due 0 3 = 0
            owes 1 1 9999 = 0
            due 0 0 = 1
            due 0 1 = 99
            due 0 2 = 0
            owes 4 1 0 = 9999
            owes 1 1 0 = 9999
            owes 2 1 50 = 99
            owes 3 1 48 = 101
            due 0 2 = 50
            due 0 3 = 48                     # together less than WORTH
            due 0 4 = 0
            pay 0 4 100 = 100
            due 0 3 = 48                     # what is paid is of no matter
            due 0 4 = 0
            """);
    }

    private static void settledEnough(Due due) {
        Script.of(due, "over CLAIMS whose SETTLED is WORTH or more", """
            leg 0 1 0 0 100 200 = 0
            traveller 0 = 0
            traveller 0 = 1
            balance 0 = 0                    # nothing there yet
            back = 0
            law 0 0 0 0 100 = 0
            claim 0 = 0
            claim 1 = 1
            owes 0 0 100 = 0
            owes 0 1 100 = 0
            balance 0 = 0
            pay 0 1 99 = 99
            balance 0 = 0
            balance 1 = 0
            pay 0 2 1 = 100
            balance 0 = -100
            balance 1 = 99
            balance 2 = 1
            pay 1 2 101 = 101
            balance 0 = -200
            balance 2 = 102
            excuse 0 0 0 true = 1
            balance 0 = -200                 # without a LOG nothing is to BLAME
            log 0 100 300 = 1
            balance 0 = 0                    # EXCUSED: WORTH is 0, and DUE too
            balance 1 = 99
            balance 2 = 102
            back = -9
            """);
    }

    private static void back(Due due) {
        Scene none = Scene.of(due, "the fewest payments", """
            leg 0 1 0 0 100 200 = 0
            law 0 0 0 0 9999 = 0
            traveller 0 = 0
            traveller 0 = 1
            traveller 0 = 2
            traveller 0 = 3
            claim 0 = 0
            claim 1 = 1
            claim 2 = 2
            claim 3 = 3
            """);
        none.takes("back = 0\nbalance 0 = 0\nbalance 4 = 0\n");
        none.takes("""
            pay 0 0 9999 = 9999
            owes 4 0 9999 = 0
            back = 1
            owes 4 0 9998 = 9999
            back = -9                        # not 0 together
            owes 0 0 1 = 0
            back = 1
            owes 0 0 9999 = 1
            back = 0                         # it paid what it was DUE
            """);
        none.takes("""
            pay 0 0 9999 = 9999
            owes 1 0 1 = 0
            owes 2 0 2 = 0
            owes 3 0 3 = 0
            back = -9
            owes 4 0 9999 = 0
            back = 4                         # as many as there can be
            """);
        none.takes("""
            pay 0 0 9999 = 9999
            owes 1 0 9999 = 0
            pay 1 2 9999 = 9999
            owes 3 1 9999 = 0
            back = 2                         # two sets of two
            owes 3 1 9998 = 9999
            owes 4 1 1 = 0
            back = 3                         # one of two, one of three
            owes 1 0 9998 = 9999
            owes 3 0 1 = 0
            balance 0 = 9999
            balance 1 = -9998
            balance 2 = 9999
            balance 3 = -9999
            balance 4 = -1
            back = 3
            owes 1 0 9997 = 9998
            owes 3 0 2 = 1
            balance 1 = -9997
            balance 3 = -10000
            back = 4                         # only all five together
            """);
        none.takes("""
            pay 0 0 9999 = 9999
            owes 1 0 9999 = 0
            pay 1 1 9999 = 9999
            owes 2 1 9999 = 0
            balance 1 = 0
            back = 1                         # the one between is even
            pay 2 2 9999 = 9999
            owes 0 2 9999 = 0
            back = 0                         # round and round
            pay 3 3 9998 = 9998
            back = 0                         # not yet SETTLED
            pay 3 3 1 = 9999
            back = -9
            """);
    }
}
