/** Promises 15 to 20: traveller, then, missed, soonest, hours, blame. */
public final class TravellersTest {
    public static void main(String[] args) {
        Due due = new Due();
        travellers(due);
        tickets(due);
        missed(due);
        timesOfNought(due);
        otherWays(due);
        oddWays(due);
        roundTrip(due);
        hours(due);
        blame(due);
        due.end();
    }

    private static void travellers(Due due) {
        Script all = Script.of(due, "traveller", """
            traveller 0 = -1
            leg 0 1 0 0 100 200 = 0
            traveller 1 = -1
            traveller -1 = -1
            """);
        for (int i = 0; i < 20; i++) all.on("traveller 0 = " + i);
        all.on("""
            traveller 0 = -6
            traveller 1 = -1
            count 3 = 20
            missed 19 = 0
            missed 20 = -1
            missed -1 = -1
            soonest 20 = -1
            soonest -1 = -1
            hours 20 = -1
            hours -1 = -1
            blame 20 = -1
            blame -1 = -1
            """);
    }

    private static void tickets(Due due) {
        Script.of(due, "then", """
            leg 0 1 0 0 100 200 = 0
            leg 1 0 0 0 245 300 = 1
            leg 1 0 0 0 244 300 = 2
            leg 0 1 0 0 345 400 = 3
            leg 1 0 0 0 445 500 = 4
            leg 0 1 0 0 545 600 = 5
            leg 2 0 0 0 445 500 = 6
            traveller 0 = 0
            then 1 1 = -1
            then -1 1 = -1
            then 0 7 = -1
            then 0 -1 = -1
            then 0 0 = -3
            then 0 2 = -3       # 44 behind
            then 0 6 = -3       # from elsewhere
            then 0 1 = 2        # 45 behind: CONNECT
            then 0 1 = -3
            set 2 46 = 45
            then 0 3 = -3       # CONNECT as it is then
            set 2 45 = 46
            then 0 3 = 3
            then 0 4 = 4
            then 0 5 = -6
            then 0 6 = -3       # STATE is told ahead of ROOM
            set 2 300 = 45      # what is on the ticket stays
            missed 0 = 0
            then 0 5 = -3
            """);
    }

    private static void missed(Due due) {
        Script.of(due, "missed", """
            leg 0 1 0 0 100 200 = 0
            leg 1 2 1 1 300 400 = 1
            leg 2 3 2 2 500 600 = 2
            traveller 0 = 0
            then 0 1 = 2
            then 0 2 = 3
            missed 0 = 0
            log 1 300 400 = 1
            log 2 500 600 = 1
            missed 0 = 0
            log 0 100 255 = 1
            missed 0 = -9       # 45 behind
            log 0 100 256 = 0
            missed 0 = 1
            log 0 100 200 = 0
            log 1 300 456 = 0
            missed 0 = 2
            seen 2 1 1 = 1      # the CLOCK of 2 showed too much of both
            missed 0 = 2
            set 2 44 = 45
            missed 0 = -9       # CONNECT as it is now
            soonest 0 = 600
            log 0 100 257 = 0
            missed 0 = 1
            set 2 0 = 44
            log 2 455 600 = 0
            missed 0 = 2
            log 2 456 600 = 0
            missed 0 = -9
            """);
    }

    private static void timesOfNought(Due due) {
        Script.of(due, "both right times would be below 0", """
            leg 0 1 0 0 100 200 = 0
            leg 1 2 1 1 300 400 = 1
            traveller 0 = 0
            then 0 1 = 2
            seen 1 0 50 = 1
            log 0 100 20 = 1
            log 1 10 400 = 1
            set 2 0 = 45
            missed 0 = -9        # both are 0
            set 2 1 = 0
            missed 0 = 1
            """);
    }

    private static void otherWays(Due due) {
        Script.of(due, "soonest", """
            leg 0 1 0 0 100 200 = 0
            leg 1 2 1 1 300 400 = 1
            leg 1 2 2 2 320 700 = 2
            leg 1 3 3 3 310 400 = 3
            leg 3 2 3 3 430 500 = 4
            leg 0 2 4 4 100 120 = 5
            traveller 0 = 0
            then 0 1 = 2
            soonest 0 = -9
            log 0 100 290 = 1
            missed 0 = 1
            soonest 0 = -9        # the MISSED one has no LOG, nor has another
            log 2 289 650 = 1
            soonest 0 = -9        # it left ahead of the arrival
            log 2 290 650 = 0
            soonest 0 = 650       # just then: no CONNECT for the first LEG
            log 3 310 400 = 1
            soonest 0 = 650
            log 4 444 500 = 1
            soonest 0 = 650       # 44 behind
            log 4 445 500 = 0
            soonest 0 = 500
            seen 3 0 30 = 1       # by right times: 370, then 415
            soonest 0 = 500
            set 2 46 = 45
            soonest 0 = 650
            set 2 45 = 46
            log 1 300 499 = 1
            missed 0 = 1          # 10 behind
            soonest 0 = 499       # the MISSED one itself, since it can be the first
            log 5 290 300 = 1
            soonest 0 = 499       # from another PORT
            log 1 280 499 = 0
            soonest 0 = 500
            """);
        Script.of(due, "soonest, the first LEG MISSED", """
            leg 0 1 0 0 100 200 = 0
            leg 0 1 1 1 50 90 = 1
            leg 0 1 1 1 50 90 = 2
            traveller 0 = 0
            log 1 99 150 = 1
            soonest 0 = -9        # ahead of the planned leaving
            hours 0 = 9999
            log 2 100 350 = 1
            soonest 0 = 350
            hours 0 = 150
            log 1 100 199 = 0
            soonest 0 = 199
            hours 0 = 0
            """);
    }

    private static void oddWays(Due due) {
        Script.of(due, "LEGS that arrive ahead of their leaving", """
            set 2 0 = 45
            leg 0 1 0 0 100 200 = 0
            leg 0 3 1 1 100 200 = 1
            leg 3 4 1 1 100 200 = 2
            leg 4 3 1 1 100 200 = 3
            leg 3 1 1 1 100 200 = 4
            traveller 0 = 0
            log 1 100 500 = 1
            log 2 500 600 = 1
            log 3 600 50 = 1      # back at 3 ahead of having left it
            log 4 60 70 = 1
            soonest 0 = 70
            log 3 600 61 = 0
            soonest 0 = -9
            """);
        Script.of(due, "the goal on the way", """
            leg 0 1 0 0 100 200 = 0
            leg 0 1 1 1 100 200 = 1
            leg 1 2 1 1 100 200 = 2
            leg 2 1 1 1 100 200 = 3
            traveller 0 = 0
            log 1 100 500 = 1
            soonest 0 = 500
            log 2 545 300 = 1
            log 3 345 400 = 1
            soonest 0 = 400       # through it and back, sooner by its CLOCKS
            log 3 344 400 = 0
            soonest 0 = 500
            """);
        Script.of(due, "round and round", """
            set 2 0 = 45
            leg 0 1 0 0 100 200 = 0
            leg 1 0 1 1 100 200 = 1
            leg 2 3 1 1 100 200 = 2
            leg 0 2 1 1 100 150 = 3
            traveller 3 = 0
            then 0 2 = -3
            log 0 100 100 = 1
            log 1 100 100 = 1     # at one moment there and back, for ever
            log 2 100 100 = 1
            soonest 0 = -9
            leg 1 2 1 1 100 150 = 4
            log 4 100 777 = 1
            soonest 0 = 777       # by the LEGS 0 and 4
            """);
    }

    private static void roundTrip(Due due) {
        Script.of(due, "round trip", """
            leg 0 1 0 0 100 200 = 0
            leg 1 0 0 0 300 400 = 1
            traveller 0 = 0
            then 0 1 = 2
            soonest 0 = -9        # one LEG at least, though the traveller is there
            leg 0 1 1 1 100 150 = 2
            log 2 120 180 = 1
            log 1 300 420 = 1
            soonest 0 = 420
            hours 0 = 20
            law 0 0 0 0 40 = 0
            law 0 0 0 1 90 = 1
            sum 0 0 0 = 40        # no miles from a PORT to itself
            """);
    }

    private static void hours(Due due) {
        Script.of(due, "hours", """
            leg 0 1 0 0 100 200 = 0
            traveller 0 = 0
            hours 0 = 9999
            log 0 100 199 = 1
            hours 0 = 0
            log 0 100 201 = 0
            hours 0 = 1
            log 0 100 30000 = 0
            hours 0 = 29800
            seen 1 0 -600 = 1
            hours 0 = 30400
            soonest 0 = 30600
            """);
    }

    private static void blame(Due due) {
        Script.of(due, "blame", """
            leg 0 1 0 0 100 200 = 0
            leg 1 2 0 1 300 400 = 1
            leg 2 3 1 2 500 600 = 2
            cause 0 3 = 0
            cause 1 1 = 0
            cause 2 5 = 0
            traveller 0 = 0
            then 0 1 = 2
            then 0 2 = 3
            blame 0 = -9          # no LOG
            log 0 100 300 = 1
            blame 0 = -9          # the MISSED one itself, which has none
            log 1 330 430 = 1     # HANDED 30 of the first one, none its OWN
            log 2 500 600 = 1
            missed 0 = 1
            blame 0 = 3
            cause 0 2 = 3
            blame 0 = 2
            set 2 0 = 45
            missed 0 = -9
            blame 0 = -9          # the last LEG is not LATE
            log 2 500 601 = 0
            blame 0 = 5
            set 2 71 = 0
            log 0 100 200 = 0
            missed 0 = 2
            blame 0 = 1           # that ahead of the MISSED one
            set 2 45 = 71
            log 0 100 286 = 0
            missed 0 = 1
            log 1 330 999 = 0
            blame 0 = 2           # though the MISSED one is far more LATE by itself
            log 1 330 430 = 0
            log 0 100 285 = 0
            missed 0 = -9
            blame 0 = 5
            """);
        Script.of(due, "blame of several", """
            leg 0 1 0 0 100 200 = 0
            leg 1 2 0 1 300 400 = 1
            traveller 1 = 0
            cause 0 4 = 0
            cause 1 2 = 0
            log 0 100 285 = 1
            log 1 330 430 = 1
            minutes 1 4 = 15
            minutes 1 2 = 15
            blame 0 = 2           # the least
            cause 1 5 = 2
            blame 0 = 4
            log 1 330 431 = 0
            blame 0 = 5
            """);
    }
}
