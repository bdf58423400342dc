/** Promises 7 to 14: leg, log, cause, set, legOf, ahead, minutes, saved. */
public final class LegsTest {
    public static void main(String[] args) {
        Due due = new Due();
        legs(due);
        logs(due);
        causes(due);
        settings(due);
        rightTimes(due);
        aheads(due);
        waits(due);
        alikeWaits(due);
        minutes(due);
        longChain(due);
        spares(due);
        due.end();
    }

    private static void legs(Due due) {
        Script.of(due, "leg", """
            leg 0 9 5 5 0 20000 = 0
            leg 1 1 0 0 1 2 = -1
            leg -1 1 0 0 1 2 = -1
            leg 10 1 0 0 1 2 = -1
            leg 0 -1 0 0 1 2 = -1
            leg 0 10 0 0 1 2 = -1
            leg 0 1 -1 0 1 2 = -1
            leg 0 1 6 0 1 2 = -1
            leg 0 1 0 -1 1 2 = -1
            leg 0 1 0 6 -1 2 = -1
            leg 0 1 0 0 -1 2 = -4
            leg 0 1 0 0 5 5 = -4
            leg 0 1 0 0 5 -1 = -4
            leg 0 1 0 0 20001 20001 = -4    # BELOW is told ahead of ROOM
            leg 0 1 0 0 20001 20002 = -6
            leg 0 1 0 0 19999 20001 = -6
            count 1 = 1
            """);
        Script full = Script.of(due, "40 legs", "");
        for (int i = 0; i < 40; i++) full.on("leg 2 3 1 1 " + i + " 100 = " + i);
        full.on("""
            leg 2 3 1 1 0 100 = -6
            leg 2 3 1 1 100 100 = -4
            leg 2 3 6 1 0 100 = -1
            count 1 = 40
            log 39 0 0 = 1
            log 40 0 0 = -1
            """);
    }

    private static void logs(Due due) {
        Script.of(due, "log", """
            leg 0 1 0 0 100 200 = 0
            leg 0 1 0 0 100 200 = 1
            count 2 = 0
            log 2 0 0 = -1
            log -1 0 0 = -1
            log 0 -1 30001 = -4
            log 0 0 -1 = -4
            log 0 30001 0 = -6
            log 0 0 30001 = -6
            legOf 0 0 = -5
            count 2 = 0
            log 0 0 30000 = 1
            legOf 0 0 = 29800
            log 0 30000 0 = 0
            legOf 0 0 = 0
            legOf 0 1 = 29900
            count 2 = 1
            log 1 0 0 = 1
            count 2 = 2
            """);
    }

    private static void causes(Due due) {
        Script.of(due, "cause", """
            cause 0 0 = -1
            leg 0 1 0 0 100 200 = 0
            leg 0 1 0 0 100 200 = 1
            cause 0 5 = 0
            cause 0 1 = 5
            cause 1 2 = 0
            cause 0 -1 = -1
            cause 0 6 = -1
            cause -1 0 = -1
            cause 2 0 = -1
            cause 0 1 = 1
            """);
    }

    private static void settings(Due due) {
        Script.of(due, "set", """
            set 0 200 = 30
            set 0 0 = 200
            set 0 201 = -6
            set 0 -1 = -4
            set 1 900 = 60
            set 1 0 = 900
            set 1 901 = -6
            set 1 -1 = -4
            set 2 300 = 45
            set 2 0 = 300
            set 2 301 = -6
            set 2 -1 = -4
            set 3 9 = 5
            set 3 1 = 9
            set 3 10 = -6
            set 3 0 = -4
            set 4 1 = -2
            set -1 -1 = -2
            set 3 1 = 1
            count 12 = 2
            count 14 = 4
            count 16 = 4
            """);
    }

    private static void rightTimes(Due due) {
        Script.of(due, "right times", """
            leg 1 2 0 0 100 200 = 0
            log 0 130 260 = 1
            legOf 0 0 = 60
            legOf 0 1 = 30
            seen 1 0 20 = 1      # 1 shows 20 too much, so it truly left sooner
            legOf 0 0 = 60
            legOf 0 1 = 10
            seen 2 0 -15 = 1
            legOf 0 0 = 75
            legOf 0 5 = 75
            seen 2 0 60 = 0      # it QUARRELS and is not taken
            legOf 0 0 = 75
            log 0 121 199 = 0    # anew, by the CLOCKS as they are
            legOf 0 0 = 14
            legOf 0 1 = 1
            log 0 5 0 = 0
            legOf 0 1 = 0
            legOf 0 -1 = -2
            legOf 0 6 = -2
            legOf 1 6 = -1
            legOf -1 0 = -1
            leg 1 2 0 0 100 200 = 1
            legOf 1 6 = -2
            legOf 1 5 = -5
            """);
        Script.of(due, "right times are 0 at least", """
            leg 1 2 0 0 100 110 = 0
            leg 2 3 0 1 140 150 = 1
            seen 2 0 500 = 1
            seen 1 0 600 = 1
            log 0 100 130 = 1    # right times would be -500 and -370
            log 1 640 150 = 1
            legOf 0 0 = 0
            saved 0 0 = 0
            set 0 0 = 30
            legOf 1 1 = 0
            legOf 1 2 = 0
            traveller 0 = 0
            soonest 0 = 0
            """);
    }

    private static void aheads(Due due) {
        Script.of(due, "ahead", """
            leg 0 1 0 0 100 200 = 0
            leg 1 2 0 0 230 300 = 1
            ahead 1 false = 0    # just TURN ahead
            ahead 1 true = -9    # REST is 60
            set 0 31 = 30
            ahead 1 false = -9
            set 1 30 = 60
            ahead 1 true = 0
            set 0 30 = 31
            leg 3 1 0 1 50 200 = 2
            ahead 1 false = 2    # as late: the greater number
            ahead 1 true = 0     # of another CREW
            leg 3 1 0 0 50 199 = 3
            ahead 1 false = 2    # not as late
            ahead 1 true = 0
            leg 3 1 0 0 50 201 = 4
            ahead 1 false = 2    # too late
            leg 1 3 0 0 50 200 = 5
            ahead 1 false = 2    # it does not arrive there
            leg 3 1 1 2 50 200 = 6
            ahead 1 false = 2    # another PLANE
            ahead 0 false = -9
            ahead 7 false = -1
            ahead -1 true = -1
            set 0 0 = 30
            ahead 1 false = 4
            """);
    }

    private static void waits(Due due) {
        Script.of(due, "waits", """
            leg 0 1 0 0 100 200 = 0
            leg 4 1 1 1 100 190 = 1
            leg 1 2 0 1 300 400 = 2
            log 2 360 450 = 1
            legOf 2 1 = 60
            legOf 2 2 = 0          # the LEG AHEAD has no LOG
            legOf 2 3 = 0
            legOf 2 4 = 0
            legOf 2 5 = 50
            log 0 100 310 = 1      # 310 and 30 less 300
            legOf 2 2 = 40
            log 1 100 290 = 1      # 290 and 60 less 300
            legOf 2 3 = 50
            legOf 2 4 = 50         # the greater one
            legOf 2 5 = 0
            log 0 100 400 = 0
            legOf 2 2 = 60         # OUTLATE at most
            legOf 2 4 = 50         # LATE at most
            legOf 2 5 = 0
            log 2 360 470 = 0
            legOf 2 4 = 60
            legOf 2 5 = 10
            log 0 100 269 = 0
            legOf 2 2 = 0          # 0 at least
            log 0 100 271 = 0
            legOf 2 2 = 1
            log 2 300 470 = 0
            legOf 2 2 = 0
            legOf 2 3 = 0
            legOf 2 5 = 70
            """);
    }

    private static void alikeWaits(Due due) {
        Script.of(due, "alike waits are the PLANE's", """
            leg 0 1 0 0 100 200 = 0
            leg 4 1 1 1 100 200 = 1
            leg 1 2 0 1 300 400 = 2
            cause 0 5 = 0
            cause 1 1 = 0
            cause 2 2 = 0
            log 0 100 310 = 1
            log 1 100 280 = 1
            log 2 360 460 = 1
            legOf 2 2 = 40
            legOf 2 3 = 40
            legOf 2 4 = 40
            minutes 2 5 = 40
            minutes 2 1 = 0
            minutes 2 2 = 20
            log 1 100 281 = 0    # the CREW's is greater by one
            legOf 2 4 = 41
            minutes 2 5 = 0
            minutes 2 1 = 41
            minutes 2 2 = 19
            """);
    }

    private static void minutes(Due due) {
        Script.of(due, "minutes", """
            leg 0 1 0 0 0 100 = 0
            leg 1 2 0 1 130 200 = 1
            leg 2 3 0 2 230 300 = 2
            cause 0 4 = 0
            cause 2 4 = 0
            minutes 2 4 = -5
            minutes 2 6 = -1       # NOBODY is told ahead of MISSING
            minutes 2 -1 = -1
            minutes 3 0 = -1
            minutes -1 0 = -1
            log 0 0 150 = 1
            log 1 200 280 = 1
            log 2 280 340 = 1
            minutes 0 4 = 50
            minutes 1 4 = 50       # 150 and 30 less 130
            minutes 1 0 = 30
            legOf 2 4 = 40         # less than the LEG AHEAD was HANDED: all of it is led on
            minutes 2 4 = 40
            minutes 2 0 = 0
            log 2 310 372 = 0
            legOf 2 4 = 72
            minutes 2 4 = 50
            minutes 2 0 = 22
            log 2 310 400 = 0
            legOf 2 4 = 80
            minutes 2 0 = 30
            minutes 2 4 = 70       # 50 of the first LEG, 20 of its OWN
            minutes 2 1 = 0
            log 2 310 299 = 0
            minutes 2 4 = 0
            """);
    }

    private static void longChain(Due due) {
        Script chain = Script.of(due, "a chain of 40", "set 0 0 = 30");
        for (int i = 0; i < 40; i++) {
            int at = i * 20;
            chain.on("leg " + i % 2 + " " + (i + 1) % 2 + " 0 0 " + at + " " + (at + 20) + " = " + i);
            chain.on("log " + i + " " + (at + i) + " " + (at + 20 + i + 1) + " = 1");
            chain.on("cause " + i + " " + i % 6 + " = 0");
        }
        chain.on("""
            legOf 39 0 = 40
            legOf 39 4 = 39
            minutes 39 0 = 7
            minutes 39 1 = 7
            minutes 39 2 = 7
            minutes 39 3 = 7
            minutes 39 4 = 6
            minutes 39 5 = 6
            """);
    }

    private static void spares(Due due) {
        Script.of(due, "saved", """
            leg 4 1 1 1 100 200 = 0
            leg 1 2 0 1 300 400 = 1
            saved 1 -1 = -5      # MISSING is told ahead of BELOW
            saved 2 -1 = -1
            saved -1 0 = -1
            log 1 390 480 = 1
            saved 1 0 = 90       # not ahead of the planned time
            saved 1 300 = 90
            saved 1 350 = 40
            saved 1 390 = 0
            saved 1 30000 = 0
            saved 1 -1 = -4
            saved 1 30001 = -6
            log 0 100 290 = 1    # the CREW is there 50 behind the planned time
            saved 1 0 = 40
            saved 1 350 = 40
            saved 1 351 = 39
            log 0 100 390 = 0
            saved 1 0 = 0
            log 1 200 480 = 0
            saved 1 0 = 0
            """);
    }
}
