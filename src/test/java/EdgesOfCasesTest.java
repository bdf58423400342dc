/** Promises 33 to 36 and what the terms say of CASES: each edge that a sentence names, on both sides. */
public final class EdgesOfCasesTest {
    public static void main(String[] args) {
        Due due = new Due();
        Scene busy = Scenes.busy(due);
        judged(busy);
        odds(busy);
        good(busy);
        count(due, busy);
        like(due);
        farByMinutes(due);
        farByMiles(due);
        farthest(due);
        leastFarOnes(due);
        goingOn(due);
        goodByGoingOn(due);
        goodByHalf(due);
        due.end();
    }

    /** "LAND, CAUSE, minutes, miles, won or lost, and what it cost (0 .. 9999)"; "-1; -4; -6 (40, too)." */
    private static void judged(Scene busy) {
        busy.takes("""
            judged 0 0 0 0 false 0 = 6
            judged 3 5 9999 9999 true 9999 = 7
            count 7 = 8
            """)
            .refuses("""
            judged -1 4 5 5 true 5 = -1
            judged 4 4 5 5 true 5 = -1
            judged 1 -1 5 5 true 5 = -1
            judged 1 6 5 5 true 5 = -1
            judged -2147483648 4 5 5 true 5 = -1
            judged 2147483647 4 5 5 true 5 = -1
            judged 1 -2147483648 5 5 true 5 = -1
            judged 1 2147483647 5 5 true 5 = -1
            judged 1 4 -1 5 true 5 = -4
            judged 1 4 5 -1 true 5 = -4
            judged 1 4 5 5 true -1 = -4
            judged 1 4 -2147483648 5 true 5 = -4
            judged 1 4 5 -2147483648 true 5 = -4
            judged 1 4 5 5 true -2147483648 = -4
            judged 1 4 10000 5 true 5 = -6
            judged 1 4 5 10000 true 5 = -6
            judged 1 4 5 5 true 10000 = -6
            judged 1 4 2147483647 5 true 5 = -6
            judged 1 4 5 2147483647 true 5 = -6
            judged 1 4 5 5 true 2147483647 = -6
            """)
            .refuses("""
            judged 4 4 -1 5 true 5 = -1        # the first that fits
            judged 1 6 5 -1 true 5 = -1
            judged -1 4 5 5 true 10000 = -1
            judged 1 -1 10000 5 true 5 = -1
            judged 1 4 -1 10000 true 5 = -4
            judged 1 4 10000 -1 true 5 = -4
            judged 1 4 10000 5 true -1 = -4
            judged 1 4 5 10000 false -1 = -4
            """);
    }

    /** "Refused as told: -1; -2.", with "REFUSALS are 1000000000 less them". */
    private static void odds(Scene busy) {
        busy.leavesAllBut("", """
            odds 0 0 = 1                       # CASES 1, 5 and 0 of land 1 and CAUSE 4
            odds 0 1 = 3
            odds 0 2 = 245                     # 300 less 55
            odds 2 0 = 0
            odds 2 1 = 0
            odds 2 2 = 0
            """)
            .refuses("""
            odds -1 0 = 1000000001
            odds 3 0 = 1000000001
            odds -2147483648 0 = 1000000001
            odds 2147483647 0 = 1000000001
            odds 0 -1 = 1000000002
            odds 0 3 = 1000000002
            odds 0 -2147483648 = 1000000002
            odds 0 2147483647 = 1000000002
            odds 3 3 = 1000000001              # the first that fits
            odds -1 -1 = 1000000001
            """);
    }

    /** "-1; -4; -6 (0 .. 9999)." */
    private static void good(Scene busy) {
        busy.leavesAllBut("", """
            good 0 0 = 0
            good 0 81 = 0                      # 245 by 3 is 81 and two thirds
            good 0 82 = 1
            good 0 9999 = 1
            good 2 0 = 0                       # half of 150
            good 2 74 = 0
            good 2 75 = 1
            """)
            .refuses("""
            good -1 5 = -1
            good 3 5 = -1
            good -2147483648 5 = -1
            good 2147483647 5 = -1
            good 0 -1 = -4
            good 0 -2147483648 = -4
            good 0 10000 = -6
            good 0 2147483647 = -6             # twice as much would wrap around
            good 2 10000 = -6
            good 3 -1 = -1                     # the first that fits
            good -1 10000 = -1
            """);
    }

    /** "11 .. 16 REFUSALS -1 .. -6. -9 for another what." */
    private static void count(Due due, Scene busy) {
        busy.leavesAllBut("", """
            count 0 = 12
            count 1 = 6
            count 2 = 4
            count 3 = 4
            count 4 = 4
            count 5 = 3
            count 6 = 0
            count 7 = 6
            count 8 = 1
            count 11 = 1
            count 12 = 2
            count 13 = 1
            count 14 = 3
            count 15 = 1
            count 16 = 2
            count -1 = -9                      # another what is no REFUSAL
            count 9 = -9
            count 10 = -9
            count 17 = -9
            count 18 = -9
            count 26 = -9
            count -2147483648 = -9
            count -2147483638 = -9             # 10 less it would wrap around
            count 2147483647 = -9
            """);
        Script.of(due, "each kind of REFUSAL by itself", """
            count 11 = 0
            missed 0 = -1
            count 11 = 1
            count 12 = 0
            set 9 0 = -2
            count 12 = 1
            leg 0 1 0 0 1 2 = 0
            traveller 0 = 0
            count 13 = 0
            then 0 0 = -3
            count 13 = 1
            claim 0 = 0
            claim 0 = -3
            count 13 = 2
            count 14 = 0
            days -1 = -4
            count 14 = 1
            count 15 = 0
            legOf 0 0 = -5
            count 15 = 1
            count 16 = 0
            days 4001 = -6
            count 16 = 1
            odds 9 9 = 1000000001              # counted as -1
            odds 0 9 = 1000000002              # counted as -2
            off 10 = 1000000001
            balance 5 = 1000000001
            count 11 = 4
            count 12 = 2
            count 13 = 2
            count 14 = 1
            count 15 = 1
            count 16 = 1
            count 9 = -9
            count 11 = 4
            """);
    }

    private static void like(Due due) {
        Script.of(due, "LIKE a CLAIM: of its LAW's LAND (on the DAY it was made) and its BLAME", """
            land 0 1 = 0
            land 1 2 = 0
            leg 0 1 0 0 100 200 = 0
            log 0 100 300 = 1
            cause 0 5 = 0
            traveller 0 = 0
            traveller 0 = 1
            odds 0 0 = 1000000001              # no CLAIM yet
            claim 0 = 0
            odds 0 1 = 0                       # no CASES yet
            judged 2 5 100 0 true 1 = 0
            odds 0 1 = 0                       # no LAW yet
            law 2 0 0 0 100 = 0
            law 1 1 0 0 200 = 1
            odds 0 1 = 1
            odds 0 2 = 99
            days 1 = 1
            claim 1 = 1
            odds 1 1 = 0                       # then the LAW is that of another LAND
            odds 0 1 = 1
            judged 1 5 100 0 true 3 = 1
            odds 1 2 = 197
            odds 0 2 = 99
            judged 1 4 100 0 true 3 = 2
            judged 0 5 100 0 true 3 = 3
            odds 1 1 = 1
            log 0 100 200 = 0
            odds 1 1 = 0                       # nothing is to BLAME
            odds 0 1 = 0
            """);
    }

    /** 100 minutes late, 1000 miles, K 1: of two CASES the one is chosen that is less FAR, alike the first. */
    private static Scene hundred(Due due, String title) {
        return Scene.of(due, title, """
            leg 0 1 0 0 100 200 = 0
            log 0 100 300 = 1
            traveller 0 = 0
            miles 0 1 1000 = 0
            law 0 0 0 0 1000 = 0
            claim 0 = 0
            set 3 1 = 5
            """);
    }

    private static void farByMinutes(Due due) {
        Scene hundred = hundred(due, "minutes' difference by 10, cut");
        hundred.takes("judged 0 0 110 1000 false 1 = 0\njudged 0 0 109 1000 false 2 = 1\nodds 0 2 = -2\n");
        hundred.takes("judged 0 0 109 1000 false 1 = 0\njudged 0 0 100 1000 false 2 = 1\nodds 0 2 = -1\n");
        hundred.takes("judged 0 0 90 1000 false 1 = 0\njudged 0 0 91 1000 false 2 = 1\nodds 0 2 = -2\n");
        hundred.takes("judged 0 0 91 1000 false 1 = 0\njudged 0 0 109 1000 false 2 = 1\nodds 0 2 = -1\n");
        hundred.takes("judged 0 0 119 1000 false 1 = 0\njudged 0 0 81 1000 false 2 = 1\nodds 0 2 = -1\n");
        hundred.takes("judged 0 0 80 1000 false 1 = 0\njudged 0 0 119 1000 false 2 = 1\nodds 0 2 = -2\n");
        hundred.takes("judged 0 0 0 1000 false 1 = 0\njudged 0 0 199 1000 false 2 = 1\nodds 0 2 = -2\n");
        hundred.takes("judged 0 0 0 1000 false 1 = 0\njudged 0 0 200 1000 false 2 = 1\nodds 0 2 = -1\n");
    }

    private static void farByMiles(Due due) {
        Scene hundred = hundred(due, "and miles' difference by 50, cut");
        hundred.takes("judged 0 0 100 1050 false 1 = 0\njudged 0 0 100 1049 false 2 = 1\nodds 0 2 = -2\n");
        hundred.takes("judged 0 0 100 1049 false 1 = 0\njudged 0 0 100 1000 false 2 = 1\nodds 0 2 = -1\n");
        hundred.takes("judged 0 0 100 950 false 1 = 0\njudged 0 0 100 951 false 2 = 1\nodds 0 2 = -2\n");
        hundred.takes("judged 0 0 100 951 false 1 = 0\njudged 0 0 100 1000 false 2 = 1\nodds 0 2 = -1\n");
        hundred.takes("judged 0 0 100 901 false 1 = 0\njudged 0 0 100 1099 false 2 = 1\nodds 0 2 = -1\n");
        // Each is cut by itself, and both count.
        hundred.takes("judged 0 0 109 1049 false 1 = 0\njudged 0 0 100 1000 false 2 = 1\nodds 0 2 = -1\n");
        hundred.takes("judged 0 0 110 1050 false 1 = 0\njudged 0 0 119 1000 false 2 = 1\nodds 0 2 = -2\n");
        hundred.takes("judged 0 0 110 1050 false 1 = 0\njudged 0 0 120 1000 false 2 = 1\nodds 0 2 = -1\n");
        hundred.takes("judged 0 0 110 1050 false 1 = 0\njudged 0 0 100 1100 false 2 = 1\nodds 0 2 = -1\n");
        hundred.takes("judged 0 0 110 1050 false 1 = 0\njudged 0 0 100 1099 false 2 = 1\nodds 0 2 = -2\n");
    }

    private static void farthest(Due due) {
        Script.of(due, "as FAR as can be", """
            leg 0 1 0 0 100 200 = 0
            log 0 100 200 = 1
            traveller 0 = 0
            law 0 0 0 0 1000 = 0
            claim 0 = 0
            log 0 100 30000 = 0                # 29800 minutes
            judged 0 0 0 9999 true 7 = 0
            odds 0 1 = 1
            odds 0 2 = 993
            """);
    }

    private static void leastFarOnes(Due due) {
        Script.of(due, "the K (1 .. 9; 5 at first) least FAR ones (of several the lesser numbers)", """
            leg 0 1 0 0 100 200 = 0
            log 0 100 300 = 1
            traveller 0 = 0
            law 0 0 0 0 1000 = 0
            claim 0 = 0
            odds 0 1 = 0
            judged 0 0 100 0 false 1 = 0
            odds 0 1 = 1
            judged 0 0 100 0 false 2 = 1
            judged 0 0 100 0 false 4 = 2
            judged 0 0 100 0 false 8 = 3
            odds 0 1 = 4                       # less than K
            judged 0 0 100 0 false 16 = 4
            odds 0 1 = 5
            judged 0 0 100 0 false 32 = 5
            odds 0 1 = 5
            odds 0 2 = -31                     # the lesser numbers
            judged 0 0 100 0 false 64 = 6
            judged 0 0 100 0 false 128 = 7
            judged 0 0 100 0 false 256 = 8
            judged 0 0 100 0 false 512 = 9
            set 3 9 = 5
            odds 0 1 = 9
            odds 0 2 = -511
            set 3 8 = 9
            odds 0 2 = -255
            set 3 1 = 8
            odds 0 1 = 1
            odds 0 2 = -1
            set 3 2 = 1
            odds 0 2 = -3
            log 0 100 310 = 0                  # all are as FAR as before from one another
            odds 0 2 = -3
            judged 0 0 110 0 true 1024 = 10    # the greatest number, but the least FAR
            odds 0 0 = 1
            odds 0 2 = -25                     # 1000 less 1025
            set 3 1 = 2
            odds 0 2 = -24
            """);
    }

    private static void goingOn(Due due) {
        Script.of(due, "(WORTH times how many were won, less what all of these cost) by of how many", """
            leg 0 1 0 0 100 200 = 0
            log 0 100 300 = 1
            traveller 0 = 0
            law 0 0 0 0 9999 = 0
            claim 0 = 0
            odds 0 2 = 0                       # 0 without any
            set 3 9 = 5
            """ + Scenes.times(9, "judged 0 0 100 0 true 0 = @") + """
            odds 0 0 = 9
            odds 0 1 = 9
            odds 0 2 = 89991                   # the greatest
            good 0 9998 = 0
            good 0 9999 = 1
            """);
        Script.of(due, "GOING ON may be below 0", """
            leg 0 1 0 0 100 200 = 0
            log 0 100 300 = 1
            traveller 0 = 0
            law 0 0 0 0 0 = 0
            claim 0 = 0
            set 3 9 = 5
            """ + Scenes.times(9, "judged 0 0 100 0 false 9999 = @") + """
            odds 0 0 = 0
            odds 0 1 = 9
            odds 0 2 = -89991                  # the least
            good 0 0 = 1
            """);
    }

    private static void goodByGoingOn(Due due) {
        Script.of(due, "GOOD if it is GOING ON or more", """
            leg 0 1 0 0 100 200 = 0
            log 0 100 300 = 1
            traveller 0 = 0
            law 0 0 0 0 100 = 0
            claim 0 = 0
            judged 0 0 100 0 true 1 = 0
            good 0 98 = 0
            good 0 99 = 1
            good 0 100 = 1
            judged 0 0 100 0 true 0 = 1
            good 0 99 = 0                      # 199 by 2
            good 0 100 = 1
            judged 0 0 100 0 false 0 = 2
            good 0 66 = 0                      # 199 by 3
            good 0 67 = 1
            judged 0 0 100 0 false 199 = 3
            odds 0 2 = 0
            good 0 0 = 1                       # just 0
            judged 0 0 100 0 true 99 = 4
            odds 0 2 = 1
            good 0 0 = 0                       # one by five
            good 0 1 = 1
            """);
    }

    private static void goodByHalf(Due due) {
        Script.of(due, "if none is LIKE, if it is half of WORTH or more", """
            leg 0 1 0 0 100 200 = 0
            log 0 100 300 = 1
            traveller 0 = 0
            claim 0 = 0
            judged 0 1 100 0 true 0 = 0        # of another CAUSE
            judged 1 0 100 0 true 0 = 1        # of another LAND
            good 0 0 = 1                       # WORTH 0
            law 0 0 0 0 1 = 0
            good 0 0 = 0
            good 0 1 = 1
            law 0 0 0 0 2 = 1
            good 0 0 = 0
            good 0 1 = 1
            law 0 0 0 0 3 = 2
            good 0 1 = 0
            good 0 2 = 1
            law 0 0 0 0 9999 = 3
            good 0 4999 = 0
            good 0 5000 = 1
            """);
    }
}
