/** Promises 15 to 20 and what the terms say of TRAVELLERS: each edge that a sentence names, on both sides. */
public final class EdgesOfTravellersTest {
    public static void main(String[] args) {
        Due due = new Due();
        Scene busy = Scenes.busy(due);
        traveller(busy);
        then(busy);
        asked(busy);
        follows(due);
        connectAsItIsThen(due);
        missed(due);
        soonestWithNoneMissed(due);
        firstLegOfAnotherWay(due);
        otherLegsOfAnotherWay(due);
        whereTheTravellerIs(due);
        manyWays(due);
        hours(due);
        legAtFault(due);
        blame(due);
        due.end();
    }

    /** "-1; -6 there are 20." */
    private static void traveller(Scene busy) {
        busy.takes("""
            traveller 0 = 4
            traveller 5 = 5                # without a LOG, too
            count 3 = 6
            """)
            .refuses("""
            traveller -1 = -1
            traveller 6 = -1
            traveller -2147483648 = -1
            traveller 2147483647 = -1
            """);
    }

    /** "-1; -3 it does not follow as told; -6 there are 4." */
    private static void then(Scene busy) {
        busy.takes("""
            then 0 5 = 4
            then 1 2 = 2
            then 3 1 = 2
            then 3 2 = 3
            then 3 5 = 4
            """)
            .refuses("""
            then -1 2 = -1
            then 4 2 = -1
            then 1 -1 = -1
            then 1 6 = -1
            then -2147483648 2 = -1
            then 2147483647 2 = -1
            then 1 -2147483648 = -1
            then 1 2147483647 = -1
            then 1 5 = -3                  # from elsewhere
            then 1 3 = -3                  # the one that is the last
            then 0 0 = -3                  # from there, but far too soon
            then 4 5 = -1                  # the first that fits
            """);
    }

    private static void asked(Scene busy) {
        busy.leavesAllBut("", """
            missed 0 = -9
            missed 2 = 0
            missed 3 = -9
            soonest 0 = 2010
            soonest 2 = 1830
            soonest 3 = 1660
            hours 0 = 110
            hours 2 = 0
            hours 3 = 60
            blame 0 = 3
            blame 2 = -9
            blame 3 = 1
            """)
            .refuses("""
            missed -1 = -1
            missed 4 = -1
            missed -2147483648 = -1
            missed 2147483647 = -1
            soonest -1 = -1
            soonest 4 = -1
            soonest -2147483648 = -1
            soonest 2147483647 = -1
            hours -1 = -1
            hours 4 = -1
            hours -2147483648 = -1
            hours 2147483647 = -1
            blame -1 = -1
            blame 4 = -1
            blame -2147483648 = -1
            blame 2147483647 = -1
            """);
    }

    private static void follows(Due due) {
        Scene.of(due, "each from where the one ahead arrives, planned to leave CONNECT or more behind that one's planned arrival", """
            leg 0 1 0 0 100 200 = 0
            leg 1 2 1 1 244 300 = 1
            leg 1 2 1 1 245 300 = 2
            leg 2 1 1 1 245 300 = 3
            leg 0 2 1 1 245 300 = 4
            leg 1 2 1 1 200 300 = 5
            leg 1 2 1 1 199 300 = 6
            leg 1 2 1 1 500 501 = 7
            traveller 0 = 0
            log 0 100 5000 = 1             # by what is planned, not by LOGS
            """)
            .takes("then 0 2 = 2")
            .refuses("""
            then 0 1 = -3
            then 0 3 = -3
            then 0 4 = -3
            then 0 5 = -3
            then 0 0 = -3
            """)
            .with("CONNECT 44", "set 2 44 = 45")
            .takes("then 0 1 = 2")
            .with("CONNECT 46", "set 2 46 = 44")
            .refuses("then 0 2 = -3")
            .with("CONNECT 0", "set 2 0 = 46")
            .takes("then 0 5 = 2")
            .refuses("then 0 6 = -3")
            .with("CONNECT 300", "set 2 300 = 0")
            .takes("then 0 7 = 2")
            .refuses("then 0 2 = -3");
    }

    private static void connectAsItIsThen(Due due) {
        Script.of(due, "CONNECT as it is then", """
            leg 0 1 0 0 100 200 = 0
            leg 1 0 1 1 210 300 = 1
            leg 0 1 2 2 310 400 = 2
            traveller 0 = 0
            set 2 10 = 45
            then 0 1 = 2
            set 2 11 = 10
            then 0 2 = -3
            count 13 = 1
            set 2 10 = 11
            then 0 2 = 3
            set 2 300 = 10                 # what is on the ticket stays there
            log 0 100 200 = 1
            log 1 210 300 = 1
            log 2 310 400 = 1
            missed 0 = 1
            set 2 10 = 300
            missed 0 = -9
            """);
    }

    private static void missed(Due due) {
        Script.of(due, "MISSED: the first LEG that has no LOG, or whose right leaving is less than CONNECT behind the right arrival", """
            leg 0 1 0 0 100 200 = 0
            leg 1 2 1 1 300 400 = 1
            leg 2 3 2 2 500 600 = 2
            leg 3 4 3 3 700 800 = 3
            traveller 0 = 0
            missed 0 = 0
            then 0 1 = 2
            then 0 2 = 3
            then 0 3 = 4
            log 3 700 800 = 1
            log 2 500 600 = 1
            log 1 300 400 = 1
            missed 0 = 0
            log 0 100 200 = 1
            missed 0 = -9
            log 3 645 800 = 0
            missed 0 = -9                  # 45 behind
            log 3 644 800 = 0
            missed 0 = 3
            log 2 444 600 = 0
            missed 0 = 2                   # the first of the two
            log 2 445 600 = 0
            missed 0 = 3
            log 1 244 400 = 0
            missed 0 = 1
            log 1 245 400 = 0
            missed 0 = 3
            log 0 0 0 = 0
            missed 0 = 3                   # the first LEG has none ahead: only its LOG counts
            log 3 0 800 = 0
            missed 0 = 3
            log 3 645 800 = 0
            missed 0 = -9
            seen 3 0 1 = 1
            missed 0 = -9                  # both by the CLOCK of 3
            set 2 46 = 45
            missed 0 = 2                   # 445 less 400
            set 2 300 = 46
            log 0 100 0 = 0
            log 1 300 400 = 0
            log 2 700 800 = 0
            log 3 1100 1200 = 0
            missed 0 = -9                  # each 300 behind
            log 3 1099 1200 = 0
            missed 0 = 3
            """);
    }

    private static void soonestWithNoneMissed(Due due) {
        Script.of(due, "SOONEST: with none MISSED the right arrival of the last LEG", """
            leg 0 1 0 0 100 200 = 0
            leg 0 1 1 1 100 200 = 1
            traveller 0 = 0
            log 0 100 500 = 1
            log 1 100 300 = 1              # sooner, but that is not asked
            soonest 0 = 500
            log 0 100 0 = 0
            soonest 0 = 0
            """);
    }

    private static void firstLegOfAnotherWay(Due due) {
        Script.of(due, "the first of which leaves not ahead of that (the planned leaving if it is the first)", """
            leg 0 1 0 0 100 200 = 0
            leg 0 1 1 1 10 20 = 1
            traveller 0 = 0
            log 1 100 300 = 1
            soonest 0 = 300
            log 1 99 300 = 0
            soonest 0 = -9
            seen 0 2 -1 = 1                # OFF of 0 stays 0, it is the least PORT
            soonest 0 = -9
            """);
        Script.of(due, "the first of which leaves not ahead of that, by right times", """
            leg 1 2 0 0 100 200 = 0
            leg 1 2 1 1 10 20 = 1
            traveller 0 = 0
            log 1 99 300 = 1
            soonest 0 = -9
            seen 1 0 -1 = 1                # so it truly left at 100
            soonest 0 = 300
            seen 2 0 -5 = 1
            soonest 0 = 305
            """);
        Script.of(due, "from the right arrival of the LEG ahead on", """
            leg 0 1 0 0 100 200 = 0
            leg 1 2 1 1 300 400 = 1
            leg 1 2 2 2 10 20 = 2
            traveller 0 = 0
            then 0 1 = 2
            log 0 100 250 = 1
            log 2 250 700 = 1
            missed 0 = 1
            soonest 0 = 700                # no CONNECT is asked for it
            log 2 249 700 = 0
            soonest 0 = -9
            log 1 250 650 = 1
            missed 0 = 1
            soonest 0 = 650                # the MISSED one itself
            log 1 249 650 = 0
            soonest 0 = -9
            log 2 30000 30000 = 0
            soonest 0 = 30000
            """);
    }

    private static void otherLegsOfAnotherWay(Due due) {
        Script.of(due, "each other one CONNECT or more behind the arrival of the one ahead", """
            leg 0 2 0 0 100 200 = 0
            leg 0 1 1 1 100 200 = 1
            leg 1 2 2 2 100 200 = 2
            traveller 0 = 0
            log 1 100 300 = 1
            log 2 345 400 = 1
            soonest 0 = 400
            log 2 344 400 = 0
            soonest 0 = -9
            set 2 44 = 45
            soonest 0 = 400
            set 2 0 = 44
            log 2 300 400 = 0
            soonest 0 = 400
            log 2 299 400 = 0
            soonest 0 = -9
            set 2 300 = 0
            log 2 600 700 = 0
            soonest 0 = 700
            log 2 599 700 = 0
            soonest 0 = -9
            seen 2 1 50 = 1                # the goal's CLOCK is of no matter for leaving 1
            soonest 0 = -9
            """);
    }

    private static void whereTheTravellerIs(Due due) {
        Script.of(due, "by one or more LEGS from the PORT at which the traveller is; none: -9", """
            leg 0 1 0 0 100 200 = 0
            leg 1 0 1 1 300 400 = 1
            leg 1 2 2 2 300 400 = 2
            traveller 0 = 0
            then 0 1 = 2
            soonest 0 = -9                 # it is at the last PORT, but by no LEG
            hours 0 = 9999
            log 0 100 200 = 1
            soonest 0 = -9
            log 2 300 400 = 1
            soonest 0 = -9                 # to another PORT
            leg 2 0 3 3 500 600 = 3
            soonest 0 = -9                 # without a LOG
            log 3 445 600 = 1
            soonest 0 = 600
            log 1 300 599 = 1
            soonest 0 = 599                # none is MISSED any more
            """);
    }

    /** Of as many LEGS as there may be most go there and back; whoever took them twice would have no room for the rest. */
    private static void manyWays(Due due) {
        StringBuilder lines = new StringBuilder("set 2 0 = 45\nleg 0 9 0 0 100 200 = 0\n");
        for (int i = 1; i < 37; i++) {
            lines.append(i <= 18 ? "leg 0 1" : "leg 1 0").append(" 1 1 100 200 = ").append(i).append('\n');
            lines.append("log ").append(i).append(" 100 100 = 1\n");
        }
        lines.append("""
            leg 1 2 1 1 100 200 = 37
            leg 2 3 1 1 100 200 = 38
            leg 3 9 1 1 100 200 = 39
            traveller 0 = 0
            soonest 0 = -9
            log 37 100 100 = 1
            log 38 100 100 = 1
            soonest 0 = -9
            log 39 100 777 = 1
            soonest 0 = 777
            hours 0 = 577
            log 39 99 777 = 0
            soonest 0 = -9
            """);
        Script.of(due, "40 LEGS, there and back", lines.toString());
        StringBuilder row = new StringBuilder("leg 0 9 0 0 1 2 = 0\ntraveller 0 = 0\n");
        for (int i = 1; i < 10; i++) {
            int at = (9 - i) * 100 + 1;
            row.append("leg ").append(9 - i).append(' ').append(10 - i).append(" 1 1 0 1 = ").append(i).append('\n');
            row.append("log ").append(i).append(' ').append(at).append(' ').append(at + 55).append(" = 1\n");
        }
        row.append("""
            soonest 0 = 856
            log 5 401 457 = 0
            soonest 0 = -9                 # 44 ahead of the next one
            log 5 401 456 = 0
            log 9 0 56 = 0
            soonest 0 = -9                 # the first one left ahead of 1
            """);
        Script.of(due, "by all PORTS, the LEG told last the first on the way", row.toString());
    }

    private static void hours(Due due) {
        Script.of(due, "HOURS: 0 at least (none: 9999)", """
            leg 0 1 0 0 100 200 = 0
            leg 0 1 1 1 100 200 = 1
            traveller 0 = 0
            hours 0 = 9999
            log 1 100 200 = 1
            hours 0 = 0
            log 1 100 199 = 0
            hours 0 = 0
            log 1 100 0 = 0
            hours 0 = 0
            log 1 100 201 = 0
            hours 0 = 1
            log 1 100 10198 = 0
            hours 0 = 9998
            log 1 100 10199 = 0
            hours 0 = 9999
            log 1 100 10200 = 0
            hours 0 = 10000
            log 1 99 201 = 0
            hours 0 = 9999
            """);
        Script.of(due, "behind the planned arrival of the last LEG", """
            leg 0 1 0 0 100 200 = 0
            leg 1 2 1 1 300 400 = 1
            traveller 0 = 0
            log 0 100 210 = 1
            log 1 300 430 = 1
            hours 0 = 10
            then 0 1 = 2
            hours 0 = 30
            """);
    }

    private static void legAtFault(Due due) {
        Script.of(due, "the LEG at fault: that ahead of the MISSED one (the MISSED one itself if it has no LOG), with none MISSED the last", """
            leg 0 1 0 0 100 200 = 0
            leg 1 2 1 1 300 400 = 1
            leg 2 3 2 2 500 600 = 2
            cause 0 1 = 0
            cause 1 2 = 0
            cause 2 3 = 0
            traveller 0 = 0
            then 0 1 = 2
            then 0 2 = 3
            blame 0 = -9                   # MISSED at once, and it has no LOG
            log 0 100 210 = 1
            blame 0 = -9                   # the second one has no LOG
            log 1 300 410 = 1
            blame 0 = -9                   # the last one has none
            log 2 500 610 = 1
            blame 0 = 3                    # none MISSED
            log 2 454 610 = 0
            missed 0 = 2
            blame 0 = 2
            log 1 254 410 = 0
            missed 0 = 1
            blame 0 = 1
            log 0 100 200 = 0
            log 1 244 410 = 0
            missed 0 = 1
            blame 0 = -9                   # MISSED, but the one ahead is not LATE
            """);
    }

    private static void blame(Due due) {
        Script.of(due, "the CAUSE with the most MINUTES; of several the least; -9 if that LEG has no LOG or is not LATE", """
            leg 0 1 0 0 100 200 = 0
            leg 1 2 0 1 300 400 = 1
            traveller 1 = 0
            cause 0 5 = 0
            cause 1 0 = 0
            blame 0 = -9
            log 1 300 400 = 1
            blame 0 = -9                   # not LATE
            log 1 300 399 = 0
            blame 0 = -9
            log 1 300 401 = 0
            blame 0 = 0
            log 0 100 280 = 1
            log 1 310 419 = 0
            blame 0 = 5                    # 10 and 9
            log 1 310 420 = 0
            blame 0 = 0                    # 10 and 10
            cause 1 4 = 0
            blame 0 = 4
            cause 0 3 = 5
            blame 0 = 3
            log 1 310 421 = 0
            blame 0 = 4
            cause 0 4 = 3
            blame 0 = 4
            cause 0 5 = 4
            cause 1 5 = 4
            blame 0 = 5
            """);
    }
}
