/** Promises 7 to 14 and what the terms say of LEGS: each edge that a sentence names, on both sides. */
public final class EdgesOfLegsTest {
    public static void main(String[] args) {
        Due due = new Due();
        Scene busy = Scenes.busy(due);
        leg(busy);
        log(busy);
        cause(busy);
        set(due, busy);
        legOf(busy);
        ahead(busy);
        minutes(busy);
        saved(busy);
        rightTimes(due);
        late(due);
        aheadByTurn(due);
        aheadByRest(due);
        latestAhead(due);
        waitedForPlane(due);
        waitedForCrew(due);
        handed(due);
        roots(due);
        spare(due);
        due.end();
    }

    /** "-1 (from and to one, too); -4 (to arrive not above to leave, too); -6 (40, too)." */
    private static void leg(Scene busy) {
        busy.takes("""
            leg 0 9 0 0 0 1 = 6
            leg 9 0 5 5 19999 20000 = 7
            leg 0 1 0 0 0 20000 = 8
            count 1 = 9
            """)
            .refuses("""
            leg -1 1 0 0 100 200 = -1
            leg 10 1 0 0 100 200 = -1
            leg 0 -1 0 0 100 200 = -1
            leg 0 10 0 0 100 200 = -1
            leg 0 0 0 0 100 200 = -1          # from and to one, too
            leg 9 9 0 0 100 200 = -1
            leg 0 1 -1 0 100 200 = -1
            leg 0 1 6 0 100 200 = -1
            leg 0 1 0 -1 100 200 = -1
            leg 0 1 0 6 100 200 = -1
            leg 2147483647 1 0 0 100 200 = -1
            leg 0 -2147483648 0 0 100 200 = -1
            leg 0 1 -2147483648 0 100 200 = -1
            leg 0 1 0 2147483647 100 200 = -1
            leg 0 1 0 0 -1 200 = -4
            leg 0 1 0 0 -2147483648 2147483647 = -4
            leg 0 1 0 0 100 100 = -4          # not above to leave
            leg 0 1 0 0 100 99 = -4
            leg 0 1 0 0 0 0 = -4
            leg 0 1 0 0 0 -1 = -4
            leg 0 1 0 0 -2 -1 = -4
            leg 0 1 0 0 2147483647 -2147483648 = -4
            leg 0 1 0 0 20000 20000 = -4
            leg 0 1 0 0 19999 20001 = -6
            leg 0 1 0 0 20000 20001 = -6
            leg 0 1 0 0 20001 20002 = -6
            leg 0 1 0 0 0 2147483647 = -6
            """)
            .refuses("""
            leg 0 1 6 0 -1 200 = -1           # the first that fits
            leg 0 1 0 6 100 100 = -1
            leg 3 3 0 0 100 20001 = -1
            leg 10 1 0 0 100 20001 = -1
            leg 0 1 0 0 -1 20001 = -4
            leg 0 1 0 0 20001 20001 = -4
            leg 0 1 0 0 20002 20001 = -4
            """);
    }

    /** "LOG: it left, it arrived (0 .. 30000 each)"; "1; 0 if it had one (it is anew). -1; -4; -6." */
    private static void log(Scene busy) {
        busy.takes("""
            log 0 0 0 = 0
            log 0 30000 30000 = 0
            log 4 30000 0 = 1
            log 4 0 30000 = 0
            log 5 0 0 = 1
            count 2 = 6
            """)
            .refuses("""
            log -1 5 5 = -1
            log 6 5 5 = -1
            log 2147483647 5 5 = -1
            log -2147483648 5 5 = -1
            log 0 -1 5 = -4
            log 0 5 -1 = -4
            log 4 -1 5 = -4                   # it is still without one
            log 4 5 -1 = -4
            log 0 -2147483648 5 = -4
            log 0 5 -2147483648 = -4
            log 0 30001 5 = -6
            log 0 5 30001 = -6
            log 4 30001 5 = -6
            log 4 5 30001 = -6
            log 0 2147483647 5 = -6
            log 0 5 2147483647 = -6
            log 6 -1 5 = -1                   # the first that fits
            log 6 5 -1 = -1
            log 6 30001 5 = -1
            log -1 5 30001 = -1
            log 0 -1 30001 = -4
            log 0 30001 -1 = -4
            """);
    }

    /** "the CAUSE told for the LEG (0 .. 5; 0 at first)"; "-1." */
    private static void cause(Scene busy) {
        busy.takes("""
            cause 4 0 = 0                     # 0 at first
            cause 0 5 = 1
            cause 0 0 = 5
            cause 5 0 = 5
            """)
            .refuses("""
            cause -1 0 = -1
            cause 6 0 = -1
            cause 0 -1 = -1
            cause 0 6 = -1
            cause 6 6 = -1
            cause 2147483647 0 = -1
            cause 0 -2147483648 = -1
            cause 0 2147483647 = -1
            """);
    }

    /** "TURN (0 .. 200; 30 at first)", "REST (0 .. 900; 60 at first)", "CONNECT (0 .. 300; 45 at first)", "K (1 .. 9; 5 at first)". */
    private static void set(Due due, Scene busy) {
        Scene.of(due, "at first", "")
            .takes("set 0 0 = 30")
            .takes("set 1 0 = 60")
            .takes("set 2 0 = 45")
            .takes("set 3 1 = 5");
        busy.takes("""
            set 0 0 = 20
            set 0 200 = 0
            set 1 0 = 40
            set 1 900 = 0
            set 2 0 = 50
            set 2 300 = 0
            set 3 1 = 3
            set 3 9 = 1
            set 0 1 = 200
            set 1 1 = 900
            set 2 1 = 300
            set 3 1 = 9
            """)
            .refuses("""
            set -1 5 = -2
            set 4 5 = -2
            set -2147483648 5 = -2
            set 2147483647 5 = -2
            set 0 -1 = -4
            set 1 -1 = -4
            set 2 -1 = -4
            set 3 0 = -4
            set 3 -1 = -4
            set 0 -2147483648 = -4
            set 3 -2147483648 = -4
            set 0 201 = -6
            set 1 901 = -6
            set 2 301 = -6
            set 3 10 = -6
            set 0 2147483647 = -6
            set 3 2147483647 = -6
            set 4 -1 = -2                     # the first that fits
            set -1 2147483647 = -2
            """);
    }

    /** "-1; -2; -5." */
    private static void legOf(Scene busy) {
        busy.leavesAllBut("", """
            legOf 0 0 = 60                    # 1660 less 1600
            legOf 0 1 = 20
            legOf 0 2 = 0
            legOf 0 3 = 0
            legOf 0 4 = 0
            legOf 0 5 = 60
            legOf 3 5 = 50
            """)
            .refuses("""
            legOf -1 0 = -1
            legOf 6 0 = -1
            legOf -2147483648 0 = -1
            legOf 2147483647 5 = -1
            legOf 0 -1 = -2
            legOf 0 6 = -2
            legOf 0 -2147483648 = -2
            legOf 0 2147483647 = -2
            legOf 4 0 = -5
            legOf 4 1 = -5
            legOf 4 2 = -5
            legOf 4 3 = -5
            legOf 4 4 = -5
            legOf 4 5 = -5
            legOf 5 0 = -5
            legOf 6 6 = -1                    # the first that fits
            legOf -1 -1 = -1
            legOf 4 6 = -2
            legOf 4 -1 = -2
            """);
    }

    /** "-9 none. -1." A LEG without a LOG may be asked for, too. */
    private static void ahead(Scene busy) {
        busy.leavesAllBut("", """
            ahead 0 false = -9
            ahead 0 true = -9
            ahead 1 false = 0
            ahead 2 false = 1
            ahead 2 true = -9
            ahead 5 false = -9
            ahead 5 true = -9
            """)
            .refuses("""
            ahead -1 false = -1
            ahead -1 true = -1
            ahead 6 false = -1
            ahead 6 true = -1
            ahead -2147483648 false = -1
            ahead 2147483647 true = -1
            """);
    }

    /** "-1; -5." */
    private static void minutes(Scene busy) {
        busy.leavesAllBut("", """
            minutes 0 0 = 0
            minutes 0 1 = 60
            minutes 0 5 = 0
            minutes 3 4 = 50
            """)
            .refuses("""
            minutes -1 0 = -1
            minutes 6 0 = -1
            minutes 0 -1 = -1
            minutes 0 6 = -1
            minutes -2147483648 0 = -1
            minutes 2147483647 0 = -1
            minutes 0 -2147483648 = -1
            minutes 0 2147483647 = -1
            minutes 4 0 = -5
            minutes 4 5 = -5
            minutes 5 5 = -5
            minutes 4 6 = -1                  # the first that fits
            minutes 4 -1 = -1
            """);
    }

    /** "-1; -5; -4; -6 (0 .. 30000)." */
    private static void saved(Scene busy) {
        busy.leavesAllBut("", """
            saved 0 0 = 20
            saved 0 1500 = 20
            saved 0 1501 = 19
            saved 0 1519 = 1
            saved 0 1520 = 0
            saved 0 30000 = 0
            saved 3 0 = 10
            """)
            .refuses("""
            saved -1 0 = -1
            saved 6 0 = -1
            saved -2147483648 0 = -1
            saved 2147483647 0 = -1
            saved 4 0 = -5
            saved 5 30000 = -5
            saved 0 -1 = -4
            saved 0 -2147483648 = -4
            saved 0 30001 = -6
            saved 0 2147483647 = -6
            saved 6 -1 = -1                   # the first that fits
            saved 6 30001 = -1
            saved 4 -1 = -5
            saved 4 30001 = -5
            """);
    }

    private static void rightTimes(Due due) {
        Script.of(due, "its right times are these less OFF of that PORT, 0 at least", """
            leg 1 2 0 0 0 1 = 0
            seen 1 0 10 = 1
            seen 2 0 -10 = 1
            log 0 10 0 = 1
            legOf 0 1 = 0
            legOf 0 0 = 9          # 10 less 1
            log 0 11 0 = 0
            legOf 0 1 = 1
            log 0 9 0 = 0          # it would be -1
            legOf 0 1 = 0
            saved 0 0 = 0
            """);
        Script.of(due, "a right arrival is 0 at least", """
            leg 1 2 0 0 0 1 = 0
            traveller 0 = 0
            seen 2 0 10 = 1
            log 0 0 10 = 1
            soonest 0 = 0
            log 0 0 11 = 0
            soonest 0 = 1
            log 0 0 9 = 0
            soonest 0 = 0
            log 0 0 0 = 0
            soonest 0 = 0
            """);
        Script.of(due, "by all that was SEEN by now", """
            leg 1 2 0 0 0 100 = 0
            log 0 0 100 = 1
            legOf 0 0 = 0
            seen 2 1 -7 = 1
            legOf 0 0 = 7          # told behind the LOG
            seen 2 1 7 = 0
            legOf 0 0 = 7
            seen 0 1 3 = 1
            legOf 0 0 = 10         # now 0 is the least PORT: 2 shows 10 less than it
            legOf 0 1 = 3
            """);
    }

    private static void late(Due due) {
        Script.of(due, "LATE and OUTLATE: 0 at least", """
            leg 0 1 0 0 100 200 = 0
            log 0 100 200 = 1
            legOf 0 0 = 0
            legOf 0 1 = 0
            log 0 101 201 = 0
            legOf 0 0 = 1
            legOf 0 1 = 1
            log 0 99 199 = 0
            legOf 0 0 = 0
            legOf 0 1 = 0
            log 0 0 0 = 0
            legOf 0 0 = 0
            legOf 0 1 = 0
            log 0 30000 30000 = 0
            legOf 0 0 = 29800
            legOf 0 1 = 29900
            """);
    }

    private static void aheadByTurn(Due due) {
        Script.of(due, "planned to arrive TURN or more ahead of its planned leaving", """
            leg 1 2 0 0 230 300 = 0
            leg 0 1 0 5 100 201 = 1
            ahead 0 false = -9            # 29
            leg 0 1 0 5 100 200 = 2
            ahead 0 false = 2             # 30
            set 0 29 = 30
            ahead 0 false = 1
            set 0 31 = 29
            ahead 0 false = -9
            set 0 0 = 31
            leg 0 1 0 5 100 231 = 3
            ahead 0 false = 1             # behind its leaving
            leg 0 1 0 5 100 230 = 4
            ahead 0 false = 4             # at one moment
            set 0 200 = 0
            leg 0 1 0 5 1 31 = 5
            ahead 0 false = -9
            leg 0 1 0 5 1 30 = 6
            ahead 0 false = 6
            ahead 0 true = -9
            """);
    }

    private static void aheadByRest(Due due) {
        Script.of(due, "by its CREW likewise, with REST", """
            leg 1 2 0 0 960 1000 = 0
            leg 0 1 5 0 100 901 = 1
            ahead 0 true = -9             # 59
            leg 0 1 5 0 100 900 = 2
            ahead 0 true = 2              # 60
            set 1 59 = 60
            ahead 0 true = 1
            set 1 61 = 59
            ahead 0 true = -9
            set 1 0 = 61
            leg 0 1 5 0 100 961 = 3
            ahead 0 true = 1
            leg 0 1 5 0 100 960 = 4
            ahead 0 true = 4
            set 1 900 = 0
            leg 0 1 5 0 1 61 = 5
            ahead 0 true = -9
            leg 0 1 5 0 1 60 = 6
            ahead 0 true = 6
            ahead 0 false = -9
            set 0 0 = 30                  # TURN is of no matter for a CREW
            ahead 0 true = 6
            """);
    }

    private static void latestAhead(Due due) {
        Script.of(due, "the one planned to arrive latest, of several the greatest number", """
            leg 1 2 0 0 300 400 = 0
            leg 0 1 0 0 100 200 = 1
            leg 3 1 0 0 50 199 = 2
            ahead 0 false = 1
            ahead 0 true = 1
            leg 3 1 0 0 50 200 = 3
            ahead 0 false = 3
            ahead 0 true = 3
            leg 4 1 0 0 1 200 = 4
            ahead 0 false = 4
            leg 4 1 0 0 1 201 = 5
            ahead 0 false = 5
            leg 4 1 0 0 1 200 = 6
            ahead 0 false = 5
            log 1 100 900 = 1             # by what was planned, not by LOGS
            ahead 0 false = 5
            leg 4 1 1 1 1 210 = 7         # another PLANE, another CREW
            leg 4 2 0 0 1 210 = 8         # to another PORT
            leg 1 4 0 0 1 210 = 9
            ahead 0 false = 5
            ahead 0 true = 5
            """);
    }

    private static void waitedForPlane(Due due) {
        Script.of(due, "WAITED for the PLANE: 0 at least, OUTLATE at most (0 without a LEG AHEAD, or if that has no LOG)", """
            leg 1 2 0 0 300 400 = 0
            log 0 310 410 = 1
            legOf 0 2 = 0                 # without a LEG AHEAD
            leg 0 1 0 1 100 200 = 1
            legOf 0 2 = 0                 # it has no LOG
            log 1 100 270 = 1
            legOf 0 2 = 0                 # 270 and 30 less 300
            log 1 100 269 = 0
            legOf 0 2 = 0
            log 1 100 0 = 0
            legOf 0 2 = 0
            log 1 100 271 = 0
            legOf 0 2 = 1
            log 1 100 279 = 0
            legOf 0 2 = 9
            log 1 100 280 = 0
            legOf 0 2 = 10
            log 1 100 281 = 0
            legOf 0 2 = 10                # OUTLATE at most
            log 1 100 30000 = 0
            legOf 0 2 = 10
            log 0 300 410 = 0
            legOf 0 2 = 0
            log 0 299 410 = 0
            legOf 0 2 = 0
            legOf 0 3 = 0
            """);
    }

    private static void waitedForCrew(Due due) {
        Script.of(due, "for the CREW likewise with REST", """
            leg 1 2 0 0 300 400 = 0
            log 0 310 410 = 1
            legOf 0 3 = 0
            leg 0 1 1 0 100 200 = 1
            legOf 0 3 = 0
            log 1 100 240 = 1
            legOf 0 3 = 0                 # 240 and 60 less 300
            log 1 100 239 = 0
            legOf 0 3 = 0
            log 1 100 241 = 0
            legOf 0 3 = 1
            log 1 100 250 = 0
            legOf 0 3 = 10
            log 1 100 251 = 0
            legOf 0 3 = 10
            set 1 50 = 60
            legOf 0 3 = 1
            log 0 300 410 = 0
            legOf 0 3 = 0
            legOf 0 2 = 0
            """);
    }

    private static void handed(Due due) {
        Script.of(due, "HANDED on: by the greater of the two WAITS (alike: the PLANE's), LATE at most; OWN: what is left", """
            leg 1 2 0 0 300 400 = 0
            leg 0 1 0 1 100 200 = 1
            leg 3 1 1 0 100 200 = 2
            cause 0 5 = 0
            cause 1 4 = 0
            cause 2 3 = 0
            log 0 350 450 = 1
            log 1 100 290 = 1             # 20
            log 2 100 259 = 1             # 19
            legOf 0 4 = 20
            legOf 0 5 = 30
            minutes 0 4 = 20
            minutes 0 3 = 0
            log 2 100 260 = 0             # alike
            legOf 0 4 = 20
            minutes 0 4 = 20
            minutes 0 3 = 0
            log 2 100 261 = 0
            legOf 0 4 = 21
            minutes 0 4 = 0
            minutes 0 3 = 21
            minutes 0 5 = 29
            log 0 350 421 = 0
            legOf 0 4 = 21
            legOf 0 5 = 0
            minutes 0 5 = 0
            log 0 350 420 = 0
            legOf 0 4 = 20                # LATE at most
            legOf 0 5 = 0
            minutes 0 3 = 20
            log 0 350 401 = 0
            legOf 0 4 = 1
            log 0 350 400 = 0
            legOf 0 3 = 21
            legOf 0 4 = 0
            legOf 0 5 = 0
            minutes 0 3 = 0
            """);
    }

    private static void roots(Due due) {
        Script.of(due, "as many of them as it was HANDED at most; they add up to LATE", """
            leg 0 1 0 0 0 100 = 0
            leg 1 2 0 1 130 200 = 1
            leg 2 3 0 2 230 300 = 2
            cause 0 1 = 0
            cause 1 2 = 0
            cause 2 3 = 0
            log 0 0 120 = 1
            log 1 150 230 = 1             # HANDED 20, OWN 10
            log 2 249 320 = 1             # HANDED 19
            legOf 1 4 = 20
            legOf 2 4 = 19
            minutes 2 1 = 19
            minutes 2 2 = 0
            minutes 2 3 = 1
            log 2 250 320 = 0
            minutes 2 1 = 20              # just as many
            minutes 2 2 = 0
            minutes 2 3 = 0
            log 2 251 321 = 0
            minutes 2 1 = 20
            minutes 2 2 = 1
            minutes 2 3 = 0
            log 2 270 340 = 0
            legOf 2 4 = 30
            minutes 2 1 = 20
            minutes 2 2 = 10
            minutes 2 3 = 10
            log 0 0 100 = 0
            minutes 2 1 = 0
            minutes 2 2 = 30
            minutes 2 3 = 10
            cause 2 2 = 3                 # one CAUSE of two LEGS
            minutes 2 2 = 40
            minutes 2 0 = 0
            minutes 2 4 = 0
            minutes 2 5 = 0
            """);
    }

    private static void spare(Due due) {
        Script.of(due, "the greatest of its planned time, the time SPARE is free, and its planned time and the CREW's WAIT", """
            leg 1 2 0 0 300 400 = 0
            leg 0 1 0 1 100 200 = 1
            leg 3 1 1 0 100 200 = 2
            log 0 350 450 = 1
            log 1 100 400 = 1             # a WAIT for the PLANE is of no matter
            saved 0 0 = 50
            saved 0 299 = 50
            saved 0 300 = 50
            saved 0 301 = 49
            log 2 100 260 = 1             # the CREW's: 20
            saved 0 0 = 30
            saved 0 319 = 30
            saved 0 320 = 30
            saved 0 321 = 29
            saved 0 349 = 1
            saved 0 350 = 0
            saved 0 351 = 0               # 0 at least
            log 2 100 290 = 0             # 50, OUTLATE at most
            saved 0 0 = 0
            log 2 100 2900 = 0
            saved 0 0 = 0
            log 0 300 450 = 0
            saved 0 0 = 0
            log 0 0 450 = 0
            saved 0 0 = 0
            """);
    }
}
