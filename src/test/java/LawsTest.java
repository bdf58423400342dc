/** Promises 21 to 23: law, excuse, sum. */
public final class LawsTest {
    public static void main(String[] args) {
        Due due = new Due();
        rows(due);
        lands(due);
        sums(due);
        excuses(due);
        excusesAreFull(due);
        due.end();
    }

    private static void rows(Due due) {
        Script all = Script.of(due, "law", """
            days 10 = 10
            law -1 10 0 0 0 = -1
            law 4 9 0 0 0 = -1
            law 0 9 0 0 10000 = -4      # a DAY ahead of now
            law 0 -1 0 0 0 = -4
            law 0 10 -1 0 0 = -4
            law 0 10 0 -1 0 = -4
            law 0 10 0 0 -1 = -4
            law 0 4001 0 0 0 = -6
            law 0 10 10000 0 0 = -6
            law 0 10 0 10000 0 = -6
            law 0 10 0 0 10000 = -6
            count 4 = 0
            law 3 4000 9999 9999 9999 = 0
            """);
        for (int i = 1; i < 30; i++) all.on("law 0 10 0 0 0 = " + i);
        all.on("""
            law 0 10 0 0 0 = -6
            law 0 9 0 0 0 = -4
            count 4 = 30
            """);
    }

    private static void lands(Due due) {
        Script.of(due, "the LAND of the LAW", """
            land 0 1 = 0
            land 2 3 = 0
            leg 0 1 0 0 100 200 = 0
            leg 1 2 0 0 300 400 = 1
            traveller 0 = 0
            then 0 1 = 2
            law 0 0 0 0 100 = 0     # of the PORT between: it does not matter
            sum 0 0 1 = -9
            sum 0 0 0 = 0
            sum 0 0 2 = 0
            law 3 5 0 0 200 = 1
            sum 0 4 1 = -9
            sum 0 5 1 = 3
            sum 0 5 0 = 200
            law 1 7 9999 0 300 = 2
            sum 0 6 1 = 3
            sum 0 7 1 = 1           # the first PORT's has rows, though none is reached
            sum 0 7 0 = 300         # 9999 without another way
            log 0 100 200 = 1
            log 1 300 400 = 1
            sum 0 7 0 = 0
            sum 0 6 0 = 200
            sum 0 4000 1 = 1
            land 0 2 = 1
            sum 0 7 1 = 3
            """);
    }

    private static void sums(Due due) {
        Script.of(due, "sum", """
            leg 0 1 0 0 100 200 = 0
            traveller 0 = 0
            log 0 100 380 = 1
            miles 0 1 500 = 0
            law 0 0 180 500 100 = 0
            sum 0 0 0 = 100          # both are just reached
            law 0 0 181 0 900 = 1
            law 0 0 0 501 900 = 2
            law 1 0 0 0 900 = 3
            law 0 1 0 0 800 = 4
            sum 0 0 0 = 100
            sum 0 1 0 = 800
            law 0 0 0 0 90 = 5
            sum 0 0 0 = 100          # the greatest
            log 0 100 379 = 0
            sum 0 0 0 = 90
            log 0 100 380 = 0
            miles 1 0 499 = 500
            sum 0 0 0 = 90
            sum 1 -1 3 = -1
            sum -1 0 0 = -1
            sum 0 -1 3 = -2
            sum 0 0 -1 = -2
            sum 0 -1 2 = -4
            sum 0 4001 2 = -6
            count 11 = 2
            count 12 = 2
            count 14 = 1
            count 16 = 1
            """);
    }

    private static void excuses(Due due) {
        Script.of(due, "excuse", """
            land 1 1 = 0
            leg 0 1 0 0 2880 3000 = 0     # on DAY 2
            traveller 0 = 0
            cause 0 4 = 0
            log 0 2880 3100 = 1
            law 0 5 0 0 500 = 0
            law 1 0 0 0 300 = 1
            excuse 0 4 2 true = 1
            sum 0 5 2 = 1
            sum 0 5 0 = 0
            sum 0 5 1 = 0
            sum 0 4 2 = 0                 # then the LAW is that of another LAND
            sum 0 4 0 = 300
            excuse 0 4 3 false = 2        # its DAY is behind
            sum 0 5 2 = 1
            excuse 0 3 0 false = 3        # another CAUSE
            sum 0 5 2 = 1
            excuse 1 4 0 false = 4        # another LAND
            sum 0 5 2 = 1
            days 2 = 2
            excuse 0 4 0 false = 5        # told on that DAY
            sum 0 5 2 = 0
            sum 0 5 0 = 500
            excuse 0 4 1 true = 6         # the one told last
            sum 0 5 2 = 1
            days 1 = 3
            excuse 0 4 0 false = 7        # it was not known then
            sum 0 5 2 = 1
            log 0 2880 3000 = 0
            sum 0 5 2 = 0                 # not LATE: nothing is to BLAME
            sum 0 5 0 = 500
            """);
        Script.of(due, "wrong excuse", """
            excuse -1 0 -1 true = -1
            excuse 4 0 0 true = -1
            excuse 0 -1 0 true = -1
            excuse 0 6 4001 true = -1
            excuse 0 0 -1 true = -4
            excuse 0 0 4001 true = -6
            excuse 0 0 4000 true = 1
            """);
        Script.of(due, "the DAY of the first LEG", """
            leg 0 1 0 0 1439 1500 = 0
            leg 1 2 0 0 1600 1700 = 1
            traveller 0 = 0
            then 0 1 = 2
            log 0 1439 1500 = 1
            log 1 1600 1800 = 1
            law 0 0 0 0 500 = 0
            excuse 0 0 1 true = 1
            sum 0 0 2 = 0
            excuse 0 0 0 true = 2
            sum 0 0 2 = 1
            """);
    }

    private static void excusesAreFull(Due due) {
        Script all = Script.of(due, "40 excuses", "");
        for (int i = 1; i <= 40; i++) all.on("excuse " + i % 4 + " 0 0 true = " + i);
        all.on("""
            excuse 0 0 0 true = -6
            excuse 0 0 -1 true = -4
            count 16 = 1
            """);
    }
}
