/** Promises 21 to 25 and what the terms say of LAWS, excuses, BARS and STOPS: each edge that a sentence names. */
public final class EdgesOfLawsTest {
    public static void main(String[] args) {
        Due due = new Due();
        Scene busy = Scenes.busy(due);
        law(due, busy);
        excuse(busy);
        sum(busy);
        bar(due, busy);
        stop(busy);
        inForce(due);
        landOfTheLaw(due);
        reached(due);
        withoutAnotherWay(due);
        excuseToldInTime(due);
        excuseByItsDay(due);
        dayOfATime(due);
        excuseToldLast(due);
        excuseOfOthers(due);
        due.end();
    }

    /** "-1; -4 (DAY ahead of now, too); -6 (DAY above 4000, 30, too)." */
    private static void law(Due due, Scene busy) {
        busy.takes("""
            law 0 12 0 0 0 = 4
            law 3 4000 9999 9999 9999 = 5
            law 1 13 1 1 1 = 6
            count 4 = 7
            """)
            .refuses("""
            law -1 12 5 5 5 = -1
            law 4 12 5 5 5 = -1
            law -2147483648 12 5 5 5 = -1
            law 2147483647 12 5 5 5 = -1
            law 1 11 5 5 5 = -4              # ahead of now
            law 1 0 5 5 5 = -4
            law 1 -1 5 5 5 = -4
            law 1 -2147483648 5 5 5 = -4
            law 1 12 -1 5 5 = -4
            law 1 12 5 -1 5 = -4
            law 1 12 5 5 -1 = -4
            law 1 12 -2147483648 5 5 = -4
            law 1 12 5 -2147483648 5 = -4
            law 1 12 5 5 -2147483648 = -4
            law 1 4001 5 5 5 = -6
            law 1 2147483647 5 5 5 = -6
            law 1 12 10000 5 5 = -6
            law 1 12 5 10000 5 = -6
            law 1 12 5 5 10000 = -6
            law 1 12 2147483647 5 5 = -6
            law 1 12 5 2147483647 5 = -6
            law 1 12 5 5 2147483647 = -6
            """)
            .refuses("""
            law 4 11 5 5 5 = -1              # the first that fits
            law 4 4001 5 5 5 = -1
            law -1 12 -1 5 10000 = -1
            law 1 11 10000 5 5 = -4
            law 1 4001 5 5 -1 = -4
            law 1 12 10000 -1 5 = -4
            law 1 4001 -1 10000 10000 = -4
            """);
        Scene.of(due, "the last DAY", "days 4000 = 4000")
            .takes("law 0 4000 0 0 1 = 0")
            .refuses("""
            law 0 3999 0 0 1 = -4
            law 0 4001 0 0 1 = -6
            """);
        Scene.of(due, "the first DAY", "")
            .takes("law 0 0 0 0 1 = 0")
            .refuses("law 0 -1 0 0 1 = -4");
    }

    /** "from a DAY on (0 .. 4000), told now: how many such there are. -1; -4; -6 (40, too)." */
    private static void excuse(Scene busy) {
        busy.takes("""
            excuse 0 0 0 true = 5            # a DAY ahead of now, too
            excuse 3 5 4000 false = 6
            excuse 0 0 11 false = 7
            """)
            .refuses("""
            excuse -1 0 5 true = -1
            excuse 4 0 5 true = -1
            excuse 0 -1 5 true = -1
            excuse 0 6 5 true = -1
            excuse -2147483648 0 5 true = -1
            excuse 2147483647 0 5 true = -1
            excuse 0 -2147483648 5 false = -1
            excuse 0 2147483647 5 false = -1
            excuse 1 4 -1 true = -4
            excuse 1 4 -2147483648 true = -4
            excuse 1 4 4001 true = -6
            excuse 1 4 2147483647 true = -6
            excuse 4 4 -1 true = -1          # the first that fits
            excuse 1 6 -1 true = -1
            excuse -1 4 4001 true = -1
            excuse 1 -1 4001 true = -1
            """);
    }

    /** "-1; -2; -4; -6." */
    private static void sum(Scene busy) {
        busy.leavesAllBut("", """
            sum 1 0 0 = 300
            sum 1 0 1 = 1
            sum 1 0 2 = 0
            sum 1 4000 0 = 300
            sum 1 4000 1 = 1
            sum 1 4000 2 = 0
            sum 2 4 1 = -9
            sum 2 4 0 = 0
            sum 2 4 2 = 0
            sum 3 2 0 = 0
            """)
            .refuses("""
            sum -1 5 0 = -1
            sum 4 5 0 = -1
            sum -2147483648 5 0 = -1
            sum 2147483647 5 0 = -1
            sum 1 5 -1 = -2
            sum 1 5 3 = -2
            sum 1 5 -2147483648 = -2
            sum 1 5 2147483647 = -2
            sum 1 -1 0 = -4
            sum 1 -1 1 = -4
            sum 1 -1 2 = -4
            sum 1 -2147483648 0 = -4
            sum 1 4001 0 = -6
            sum 1 4001 1 = -6
            sum 1 4001 2 = -6
            sum 1 2147483647 0 = -6
            sum 4 5 3 = -1                   # the first that fits
            sum 4 -1 0 = -1
            sum 4 4001 0 = -1
            sum 1 -1 3 = -2
            sum 1 4001 -1 = -2
            """);
    }

    /** "BAR of a LAND: so many DAYS (1 .. 3000; 365 at first)"; "-1; -4; -6." */
    private static void bar(Due due, Scene busy) {
        Scene.of(due, "at first", "").takes("""
            bar 0 1 = 365
            bar 1 1 = 365
            bar 2 1 = 365
            bar 3 1 = 365
            """);
        busy.takes("""
            bar 0 1 = 365
            bar 0 3000 = 1
            bar 3 3000 = 7
            bar 3 1 = 3000
            bar 1 2 = 30
            """)
            .refuses("""
            bar -1 5 = -1
            bar 4 5 = -1
            bar -2147483648 5 = -1
            bar 2147483647 5 = -1
            bar 1 0 = -4
            bar 1 -1 = -4
            bar 1 -2147483648 = -4
            bar 1 3001 = -6
            bar 1 2147483647 = -6
            bar 4 0 = -1                     # the first that fits
            bar -1 3001 = -1
            """);
    }

    /** "-1; -4 (to ahead of from, too); -6 (DAYS; 20, too)." */
    private static void stop(Scene busy) {
        busy.takes("""
            stop 0 0 0 = 3
            stop 3 4000 4000 = 4
            stop 1 0 4000 = 5
            stop 1 5 5 = 6
            """)
            .refuses("""
            stop -1 5 9 = -1
            stop 4 5 9 = -1
            stop -2147483648 5 9 = -1
            stop 2147483647 5 9 = -1
            stop 1 -1 9 = -4
            stop 1 -2147483648 9 = -4
            stop 1 -9 -1 = -4
            stop 1 9 8 = -4                  # to ahead of from
            stop 1 0 -1 = -4
            stop 1 9 -2147483648 = -4
            stop 1 5 4001 = -6
            stop 1 4000 4001 = -6
            stop 1 4001 4001 = -6
            stop 1 5 2147483647 = -6
            stop 1 2147483647 2147483647 = -6
            stop 4 -1 9 = -1                 # the first that fits
            stop 4 9 8 = -1
            stop -1 5 4001 = -1
            stop 1 -1 4001 = -4
            stop 1 4002 4001 = -4
            stop 1 2147483647 4001 = -4
            """);
    }

    private static void inForce(Due due) {
        Script.of(due, "rows in force then (their DAY is not behind)", """
            leg 0 1 0 0 100 200 = 0
            traveller 0 = 0
            law 0 5 0 0 100 = 0
            sum 0 4 1 = -9
            sum 0 4 0 = 0
            sum 0 5 1 = 0
            sum 0 5 0 = 100
            sum 0 6 0 = 100
            sum 0 4000 0 = 100               # for ever
            law 0 4000 0 0 200 = 1
            sum 0 3999 0 = 100
            sum 0 4000 0 = 200
            law 0 0 0 0 50 = 2
            sum 0 0 0 = 50
            sum 0 4 0 = 50
            sum 0 5 0 = 100
            """);
    }

    private static void landOfTheLaw(Due due) {
        Script.of(due, "that of the LAND of the first PORT, if it has rows in force then, else of that of the last one, if it has", """
            land 0 3 = 0
            land 1 2 = 0
            land 2 1 = 0
            leg 0 1 0 0 100 200 = 0
            leg 1 2 0 0 300 400 = 1
            traveller 0 = 0
            then 0 1 = 2
            sum 0 0 1 = -9                   # none has rows
            law 2 0 0 0 7 = 0                # of a PORT on the way
            law 0 0 0 0 8 = 1                # of no PORT of it
            sum 0 0 1 = -9
            sum 0 0 0 = 0
            law 1 3 0 0 100 = 2
            sum 0 2 1 = -9
            sum 0 3 1 = 1
            sum 0 3 0 = 100
            law 3 4 9999 9999 0 = 3          # in force, though its miles are not reached
            sum 0 3 1 = 1
            sum 0 4 1 = 3
            sum 0 4 0 = 0
            sum 0 3 0 = 100
            """);
        Script.of(due, "first and last PORT in one LAND, none told", """
            leg 0 1 0 0 100 200 = 0
            traveller 0 = 0
            law 1 0 0 0 5 = 0
            sum 0 0 1 = -9
            law 0 0 0 0 6 = 1
            sum 0 0 1 = 0
            sum 0 0 0 = 6
            """);
    }

    private static void reached(Due due) {
        Script.of(due, "whose minutes and miles are reached, the greatest; 0 without", """
            leg 0 1 0 0 100 200 = 0
            traveller 0 = 0
            log 0 100 300 = 1
            miles 0 1 500 = 0
            law 0 0 101 0 9000 = 0
            law 0 0 0 501 9000 = 1
            sum 0 0 1 = 0
            sum 0 0 0 = 0                    # none of the rows is reached
            law 0 0 100 500 60 = 2
            sum 0 0 0 = 60
            law 0 0 0 0 59 = 3
            sum 0 0 0 = 60
            law 0 0 99 499 61 = 4
            sum 0 0 0 = 61
            log 0 100 299 = 0
            sum 0 0 0 = 61
            log 0 100 298 = 0
            sum 0 0 0 = 59
            log 0 100 301 = 0
            sum 0 0 0 = 9000
            log 0 100 300 = 0
            miles 0 1 501 = 500
            sum 0 0 0 = 9000
            miles 0 1 499 = 501
            sum 0 0 0 = 61
            miles 0 1 498 = 499
            sum 0 0 0 = 59
            """);
        Script.of(due, "a SUM of 0 .. 9999", """
            leg 0 1 0 0 100 200 = 0
            traveller 0 = 0
            law 0 0 0 0 0 = 0
            sum 0 0 0 = 0
            law 0 0 0 0 9999 = 1
            sum 0 0 0 = 9999
            """);
    }

    private static void withoutAnotherWay(Due due) {
        Script.of(due, "minutes from 9999, miles from 9999", """
            leg 0 1 0 0 100 200 = 0
            traveller 0 = 0
            miles 0 1 9999 = 0
            law 0 0 9999 9999 70 = 0
            sum 0 0 0 = 70                   # HOURS are 9999 if there is no way
            log 0 100 10199 = 1
            sum 0 0 0 = 70
            log 0 100 10198 = 0
            sum 0 0 0 = 0
            log 0 100 30000 = 0
            sum 0 0 0 = 70
            miles 0 1 9998 = 9999
            sum 0 0 0 = 0
            """);
    }

    /** On DAY 2 the LEG leaves: what is told on DAY 2 counts, what is told on DAY 3 does not. */
    private static void excuseToldInTime(Due due) {
        Scene late = Scene.of(due, "of those told by the DAY of the planned leaving of the first LEG", """
            leg 0 1 0 0 2880 3000 = 0
            log 0 2880 3100 = 1
            traveller 0 = 0
            law 0 0 0 0 100 = 0
            """);
        for (int day = 0; day <= 3; day++) {
            late.with("told on DAY " + day, "days " + day + " = " + day).takes("""
                sum 0 0 2 = 0
                sum 0 0 0 = 100
                excuse 0 0 0 true = 1
                """ + (day <= 2 ? "sum 0 0 2 = 1\nsum 0 0 0 = 0\n" : "sum 0 0 2 = 0\nsum 0 0 0 = 100\n"));
        }
    }

    private static void excuseByItsDay(Due due) {
        Scene late = Scene.of(due, "whose DAY is not behind that", """
            leg 0 1 0 0 2880 3000 = 0
            log 0 2880 3100 = 1
            traveller 0 = 0
            law 0 0 0 0 100 = 0
            """);
        late.takes("excuse 0 0 0 true = 1\nsum 0 0 2 = 1\n");
        late.takes("excuse 0 0 1 true = 1\nsum 0 0 2 = 1\n");
        late.takes("excuse 0 0 2 true = 1\nsum 0 0 2 = 1\nsum 0 4000 2 = 1\nsum 0 4000 0 = 0\n");
        late.takes("excuse 0 0 3 true = 1\nsum 0 0 2 = 0\nsum 0 4000 2 = 0\nsum 0 4000 0 = 100\n");
        late.takes("excuse 0 0 4000 true = 1\nsum 0 0 2 = 0\nsum 0 4000 2 = 0\n");
        late.takes("excuse 0 0 2 true = 1\nexcuse 0 0 3 false = 2\nsum 0 0 2 = 1\nexcuse 0 0 2 false = 3\nsum 0 0 2 = 0\n");
    }

    private static void dayOfATime(Due due) {
        Script.of(due, "a time's DAY: by 1440, cut", """
            leg 0 1 0 0 1439 1600 = 0
            leg 0 1 0 0 1440 1600 = 1
            leg 0 1 0 0 2879 3000 = 2
            leg 0 1 0 0 2880 3000 = 3
            traveller 0 = 0
            traveller 1 = 1
            traveller 2 = 2
            traveller 3 = 3
            log 0 1439 9000 = 1
            log 1 1440 9000 = 1
            log 2 2879 9000 = 1
            log 3 2880 9000 = 1
            law 0 0 0 0 100 = 0
            excuse 0 0 1 true = 1
            sum 0 0 2 = 0
            sum 1 0 2 = 1
            sum 2 0 2 = 1
            excuse 0 0 2 false = 2
            sum 2 0 2 = 1
            sum 3 0 2 = 0
            """);
        Script.of(due, "the planned leaving of the first LEG, not the right one", """
            leg 0 1 0 0 1400 1430 = 0
            leg 1 2 0 0 1500 1600 = 1
            traveller 0 = 0
            then 0 1 = 2
            log 0 1445 1450 = 1
            log 1 1500 1700 = 1
            law 0 0 0 0 100 = 0
            excuse 0 0 1 true = 1
            blame 0 = 0
            sum 0 0 2 = 0
            """);
    }

    private static void excuseToldLast(Due due) {
        Script.of(due, "the one told last says so", """
            leg 0 1 0 0 2880 3000 = 0
            log 0 2880 3100 = 1
            traveller 0 = 0
            law 0 0 0 0 100 = 0
            excuse 0 0 0 false = 1           # no more, though it never was
            sum 0 0 2 = 0
            excuse 0 0 2 true = 2
            sum 0 0 2 = 1
            excuse 0 0 1 false = 3           # told last, though its DAY is sooner
            sum 0 0 2 = 0
            sum 0 0 0 = 100
            excuse 0 0 0 true = 4
            sum 0 0 2 = 1
            excuse 0 0 0 true = 5
            sum 0 0 2 = 1
            sum 0 0 0 = 0
            """);
    }

    private static void excuseOfOthers(Due due) {
        Script.of(due, "if BLAME is EXCUSED in the LAW's LAND", """
            land 0 1 = 0
            land 1 2 = 0
            leg 0 1 0 0 100 200 = 0
            log 0 100 300 = 1
            cause 0 3 = 0
            traveller 0 = 0
            excuse 1 3 0 true = 1
            sum 0 0 2 = 0                    # there is no LAW
            sum 0 0 0 = 0
            law 2 0 0 0 100 = 0
            sum 0 0 2 = 0                    # excused where it began, but the LAW is the other LAND's
            sum 0 0 0 = 100
            excuse 2 2 0 true = 2
            excuse 2 4 0 true = 3
            sum 0 0 2 = 0                    # other CAUSES
            excuse 2 3 0 true = 4
            sum 0 0 2 = 1
            sum 0 0 0 = 0
            log 0 100 200 = 0
            blame 0 = -9
            sum 0 0 2 = 0                    # nothing is to BLAME
            sum 0 0 0 = 100
            """);
    }
}
