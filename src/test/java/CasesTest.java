/** Promises 33 to 35: judged, odds, good. */
public final class CasesTest {
    public static void main(String[] args) {
        Due due = new Due();
        cases(due);
        like(due);
        far(due);
        costly(due);
        offers(due);
        due.end();
    }

    private static void cases(Due due) {
        Script all = Script.of(due, "judged", """
            judged -1 0 -1 0 true 0 = -1
            judged 4 0 0 0 true 0 = -1
            judged 0 -1 0 0 true 0 = -1
            judged 0 6 0 0 true 10000 = -1
            judged 0 0 -1 0 true 10000 = -4
            judged 0 0 0 -1 true 0 = -4
            judged 0 0 0 0 true -1 = -4
            judged 0 0 10000 0 true 0 = -6
            judged 0 0 0 10000 true 0 = -6
            judged 0 0 0 0 true 10000 = -6
            count 7 = 0
            judged 3 5 9999 9999 false 9999 = 0
            """);
        for (int i = 1; i < 40; i++) all.on("judged 0 0 0 0 true 0 = " + i);
        all.on("""
            judged 0 0 0 0 true 0 = -6
            judged 0 0 -1 0 true 0 = -4
            count 7 = 40
            """);
    }

    private static void like(Due due) {
        Script.of(due, "like", """
            land 1 2 = 0
            leg 0 1 0 0 100 200 = 0
            traveller 0 = 0
            cause 0 3 = 0
            log 0 100 300 = 1
            claim 0 = 0
            judged 0 3 0 0 true 1 = 0
            judged 2 3 0 0 true 2 = 1
            judged 0 2 0 0 true 4 = 2
            judged 0 3 0 0 false 8 = 3
            odds 0 1 = 0               # there is no LAW
            law 2 0 0 0 100 = 0
            odds 0 0 = 1
            odds 0 1 = 1
            odds 0 2 = 98
            days 1 = 1
            law 0 1 0 0 50 = 1
            odds 0 2 = 98              # by the DAY it was made
            land 0 2 = 0
            land 1 0 = 2
            odds 0 1 = 1
            cause 0 2 = 3
            odds 0 1 = 0
            cause 0 3 = 2
            log 0 100 200 = 0
            odds 0 1 = 0               # nothing is to BLAME
            odds -1 3 = 1000000001
            odds 1 0 = 1000000001
            odds 0 -1 = 1000000002
            odds 0 3 = 1000000002
            count 11 = 2
            count 12 = 2
            """);
    }

    private static void far(Due due) {
        Script.of(due, "far", """
            leg 0 1 0 0 100 200 = 0
            traveller 0 = 0
            log 0 100 300 = 1             # 100 minutes, 1000 miles
            miles 0 1 1000 = 0
            law 0 0 0 0 1000 = 0
            claim 0 = 0
            set 3 1 = 5
            judged 0 0 119 1000 false 1 = 0     # 1 FAR: 19 by 10, cut
            judged 0 0 110 1000 false 2 = 1     # 1
            odds 0 2 = -1                       # alike: the lesser number
            judged 0 0 100 1099 false 4 = 2     # 1: 99 by 50, cut
            odds 0 2 = -1
            judged 0 0 109 1049 false 8 = 3     # 0: each is cut by itself
            odds 0 2 = -8
            judged 0 0 91 951 true 16 = 4       # 0, on the other side
            odds 0 2 = -8
            set 3 2 = 1
            odds 0 2 = 976
            set 3 3 = 2
            odds 0 2 = 975
            set 3 4 = 3
            odds 0 2 = 973
            set 3 5 = 4
            odds 0 2 = 969
            judged 0 0 100 1050 true 32 = 5     # 1
            odds 0 2 = 969
            set 3 9 = 5
            odds 0 0 = 2
            odds 0 1 = 6
            odds 0 2 = 1937
            judged 0 0 0 0 true 0 = 6
            judged 0 0 0 0 true 0 = 7
            judged 0 0 0 0 true 0 = 8
            judged 0 0 0 0 true 0 = 9
            odds 0 1 = 9
            """);
        Script.of(due, "far by both", """
            leg 0 1 0 0 100 200 = 0
            traveller 0 = 0
            log 0 100 300 = 1
            law 0 0 0 0 1000 = 0
            claim 0 = 0
            set 3 1 = 5
            judged 0 0 120 50 true 1 = 0        # 2 and 1
            judged 0 0 100 200 true 2 = 1       # 0 and 4
            odds 0 2 = 999
            judged 0 0 110 50 true 3 = 2        # 1 and 1
            odds 0 2 = 997
            """);
    }

    private static void costly(Due due) {
        Script.of(due, "costly", """
            leg 0 1 0 0 100 200 = 0
            traveller 0 = 0
            log 0 100 300 = 1
            law 0 0 0 0 100 = 0
            claim 0 = 0
            judged 0 0 100 0 false 9999 = 0
            odds 0 2 = -9999
            good 0 0 = 1
            """);
    }

    private static void offers(Due due) {
        Script.of(due, "good", """
            leg 0 1 0 0 100 200 = 0
            traveller 0 = 0
            log 0 100 300 = 1
            law 0 0 0 0 101 = 0
            good 0 0 = -1
            claim 0 = 0
            good 0 50 = 0            # half of 101 is not cut
            good 0 51 = 1
            law 0 0 0 0 102 = 1
            good 0 50 = 0
            good 0 51 = 1            # just half
            judged 0 0 100 0 true 0 = 0
            good 0 101 = 0
            good 0 102 = 1
            judged 0 0 100 0 true 1 = 1
            odds 0 2 = 203
            good 0 101 = 0           # 101 and a half
            good 0 102 = 1
            judged 0 0 100 0 false 50 = 2
            good 0 50 = 0            # 153 by 3
            good 0 51 = 1
            good 0 9999 = 1
            good -1 -1 = -1
            good 1 0 = -1
            good 0 -1 = -4
            good 0 10000 = -6
            """);
    }
}
