/** Promise 1: DAY 0, nothing is told. What there is none of yet cannot be asked for; all else is as at first. */
public final class NothingYetTest {
    public static void main(String[] args) {
        Due due = new Due();
        Scene nothing = Scene.of(due, "a new object", "");
        refused(nothing);
        asked(nothing);
        firstOnes(nothing);
        oneOfEach(due);
        due.end();
    }

    private static void refused(Scene nothing) {
        nothing.refuses("""
            log 0 0 0 = -1
            cause 0 0 = -1
            legOf 0 0 = -1
            ahead 0 false = -1
            ahead 0 true = -1
            minutes 0 0 = -1
            saved 0 0 = -1
            traveller 0 = -1
            then 0 0 = -1
            missed 0 = -1
            soonest 0 = -1
            hours 0 = -1
            blame 0 = -1
            sum 0 0 0 = -1
            claim 0 = -1
            claimOf 0 0 = -1
            owes 0 0 0 = -1
            pay 0 0 1 = -1
            due 0 0 = -1
            odds 0 0 = 1000000001
            good 0 0 = -1
            """);
    }

    private static void asked(Scene nothing) {
        nothing.leavesAllBut("", "back = 0\n" + Scenes.times(9, "count @ = 0") + Scenes.times(10, "off @ = 0") + Scenes.times(5, "balance @ = 0")
            + """
            count 9 = -9
            count 10 = -9
            count 11 = 0
            count 12 = 0
            count 13 = 0
            count 14 = 0
            count 15 = 0
            count 16 = 0
            count 17 = -9
            days 0 = 0
            """);
        nothing.takes(Scenes.times(10, "land @ 0 = 0") + Scenes.times(4, "bar @ 365 = 365") + """
            set 0 30 = 30
            set 1 60 = 60
            set 2 45 = 45
            set 3 5 = 5
            """);
        for (int port = 1; port < 10; port++) nothing.takes(Scenes.times(port, "miles " + port + " @ 0 = 0"));
    }

    /** Numbers go from 0 on; where how many there are is answered, the first answer is 1. */
    private static void firstOnes(Scene nothing) {
        nothing.takes("leg 0 1 0 0 0 1 = 0\ncount 1 = 1\ncount 2 = 0\ntraveller 0 = 0\ncount 3 = 1\nclaim 0 = 0\ncount 5 = 1\n");
        nothing.takes("law 0 0 0 0 0 = 0\ncount 4 = 1\n");
        nothing.takes("judged 0 0 0 0 true 0 = 0\ncount 7 = 1\n");
        nothing.takes("excuse 0 0 0 true = 1");
        nothing.takes("excuse 3 5 0 false = 1");
        nothing.takes("stop 0 0 0 = 1");
        nothing.takes("seen 8 9 0 = 1");
    }

    /** One of each kind is told: number 0 is there, number 1 is not. */
    private static void oneOfEach(Due due) {
        Scene.of(due, "one of each", """
            leg 0 1 0 0 100 200 = 0
            traveller 0 = 0
            claim 0 = 0
            """)
            .takes("""
            cause 0 0 = 0
            ahead 0 false = -9
            ahead 0 true = -9
            missed 0 = 0
            soonest 0 = -9
            hours 0 = 9999
            blame 0 = -9
            sum 0 0 0 = 0
            sum 0 0 1 = -9
            sum 0 0 2 = 0
            claimOf 0 0 = 0
            claimOf 0 1 = 0
            claimOf 0 2 = 0
            claimOf 0 3 = 0
            claimOf 0 4 = 0
            claimOf 0 5 = 0
            owes 0 0 0 = 0
            due 0 0 = 0
            due 0 4 = 0
            balance 0 = 0
            back = 0
            odds 0 0 = 0
            odds 0 1 = 0
            odds 0 2 = 0
            good 0 0 = 1
            pay 0 0 1 = 1
            log 0 0 0 = 1
            legOf 0 0 = 0
            minutes 0 0 = 0
            saved 0 0 = 0
            """)
            .refuses("""
            log 1 0 0 = -1
            cause 1 0 = -1
            legOf 1 0 = -1
            ahead 1 false = -1
            minutes 1 0 = -1
            saved 1 0 = -1
            traveller 1 = -1
            then 0 1 = -1
            then 1 0 = -1
            missed 1 = -1
            soonest 1 = -1
            hours 1 = -1
            blame 1 = -1
            sum 1 0 0 = -1
            claim 1 = -1
            claimOf 1 0 = -1
            owes 0 1 0 = -1
            pay 1 0 1 = -1
            due 1 0 = -1
            odds 1 0 = 1000000001
            good 1 0 = -1
            legOf 0 0 = -5
            minutes 0 0 = -5
            saved 0 0 = -5
            claim 0 = -3
            """);
    }
}
