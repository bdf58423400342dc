/** Promises 24 to 27: bar, stop, claim, claimOf. */
public final class ClaimsTest {
    public static void main(String[] args) {
        Due due = new Due();
        bars(due);
        stops(due);
        claims(due);
        barred(due);
        oneStop(due);
        stopped(due);
        worth(due);
        due.end();
    }

    private static void bars(Due due) {
        Script.of(due, "bar", """
            bar 3 3000 = 365
            bar 3 1 = 3000
            bar 2 7 = 365
            bar 3 1 = 1
            bar -1 0 = -1
            bar 4 1 = -1
            bar 0 0 = -4
            bar 0 3001 = -6
            bar 0 365 = 365
            """);
    }

    private static void stops(Due due) {
        Script all = Script.of(due, "stop", """
            stop -1 1 0 = -1
            stop 4 0 0 = -1
            stop 0 -1 0 = -4
            stop 0 -2 -1 = -4
            stop 0 4002 4001 = -4
            stop 0 4001 4001 = -6
            stop 0 4000 4001 = -6
            stop 3 4000 4000 = 1
            """);
        for (int i = 2; i <= 20; i++) all.on("stop " + i % 4 + " 0 4000 = " + i);
        all.on("""
            stop 0 0 0 = -6
            stop 0 1 0 = -4
            """);
    }

    private static void claims(Due due) {
        Script all = Script.of(due, "claim", """
            claim 0 = -1
            leg 0 1 0 0 100 200 = 0
            """);
        for (int i = 0; i < 20; i++) all.on("traveller 0 = " + i);
        all.on("""
            claim 20 = -1
            claim -1 = -1
            claim 19 = 0
            days 7 = 7
            claim 3 = 1
            claim 3 = -3
            claim 19 = -3
            claimOf 0 0 = 19
            claimOf 0 1 = 0
            claimOf 1 0 = 3
            claimOf 1 1 = 7
            claimOf 1 2 = 0       # without a LAW nothing bars it
            claimOf 1 3 = 0
            claimOf 1 4 = 0
            claimOf 1 5 = 0
            claimOf 1 6 = -2
            claimOf 1 -1 = -2
            claimOf 2 6 = -1
            claimOf -1 0 = -1
            count 5 = 2
            """);
    }

    private static void barred(Due due) {
        Script.of(due, "barred", """
            land 1 2 = 0
            leg 0 1 0 0 100 1440 = 0      # planned to arrive on DAY 1
            traveller 0 = 0
            traveller 0 = 1
            traveller 0 = 2
            law 2 0 0 0 70 = 0
            bar 2 3 = 365
            bar 0 1 = 365
            days 4 = 4
            claim 0 = 0
            claimOf 0 2 = 0               # DAYS 2, 3, 4
            claimOf 0 3 = 70
            days 1 = 5
            claim 1 = 1
            claimOf 1 2 = 1
            claimOf 1 3 = 0
            claimOf 0 2 = 0               # by the DAY it was made
            count 6 = 1
            bar 2 2 = 3
            count 6 = 2
            bar 2 4 = 2
            count 6 = 0
            law 0 5 0 0 80 = 1            # now the first PORT's LAND, but not on DAY 4
            claimOf 1 2 = 1
            claimOf 0 2 = 0
            claimOf 0 3 = 70
            bar 0 4 = 1
            claimOf 1 3 = 80
            """);
        Script.of(due, "no DAY is behind yet", """
            leg 0 1 0 0 100 20000 = 0
            traveller 0 = 0
            law 0 0 0 0 70 = 0
            bar 0 1 = 365
            claim 0 = 0
            claimOf 0 2 = 0
            claimOf 0 3 = 70
            """);
    }

    private static void oneStop(Due due) {
        Script.of(due, "one STOP", """
            leg 0 1 0 0 100 200 = 0
            traveller 0 = 0
            law 0 0 0 0 70 = 0
            days 20 = 20
            claim 0 = 0
            bar 0 20 = 365
            claimOf 0 2 = 0
            stop 0 30 40 = 1
            claimOf 0 2 = 0
            bar 0 19 = 20
            claimOf 0 2 = 1               # behind all of them
            """);
        Script.of(due, "DAYS ahead of and behind a STOP", """
            leg 0 1 0 0 100 200 = 0
            traveller 0 = 0
            law 0 0 0 0 70 = 0
            days 20 = 20
            claim 0 = 0
            stop 0 5 5 = 1
            bar 0 19 = 365
            claimOf 0 2 = 0
            bar 0 18 = 19
            claimOf 0 2 = 1
            """);
    }

    private static void stopped(Due due) {
        Script.of(due, "stopped", """
            leg 0 1 0 0 100 200 = 0       # DAY 0
            traveller 0 = 0
            law 0 0 0 0 70 = 0
            days 20 = 20
            claim 0 = 0
            bar 0 19 = 365
            claimOf 0 2 = 1               # DAYS 1 to 20
            stop 1 5 5 = 1
            claimOf 0 2 = 1               # another LAND
            stop 0 0 0 = 2
            stop 0 21 4000 = 3
            claimOf 0 2 = 1               # none of these
            stop 0 20 30 = 4
            claimOf 0 2 = 0               # the last one
            bar 0 18 = 19
            claimOf 0 2 = 1
            stop 0 0 1 = 5
            claimOf 0 2 = 0               # the first one
            bar 0 10 = 18
            stop 0 5 9 = 6                # 5 to 9
            claimOf 0 2 = 1
            stop 0 8 12 = 7               # 10 to 12 more, the others once
            claimOf 0 2 = 0
            bar 0 9 = 10
            claimOf 0 2 = 1
            stop 0 6 11 = 8               # within
            claimOf 0 2 = 1
            stop 0 4 4 = 9
            claimOf 0 2 = 0
            bar 0 1 = 9
            stop 0 0 4000 = 10
            claimOf 0 2 = 0
            """);
    }

    private static void worth(Due due) {
        Script.of(due, "worth", """
            leg 0 1 0 0 100 200 = 0
            traveller 0 = 0
            law 0 0 50 0 70 = 0
            law 0 1 0 0 500 = 1
            claim 0 = 0
            days 9 = 9
            claimOf 0 3 = 70              # SUM on the DAY it was made
            log 0 100 249 = 1
            claimOf 0 3 = 0
            log 0 100 250 = 0
            claimOf 0 3 = 70
            pay 0 4 69 = 69
            claimOf 0 4 = 69
            claimOf 0 5 = 0
            pay 0 0 2 = 71
            claimOf 0 4 = 71
            claimOf 0 5 = 1
            log 0 100 200 = 0
            claimOf 0 5 = 71
            """);
    }
}
