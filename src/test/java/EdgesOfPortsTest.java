/** Promises 1 to 6 and what the terms say of PORTS: each edge that a sentence names, on both sides. */
public final class EdgesOfPortsTest {
    public static void main(String[] args) {
        Due due = new Due();
        Scene busy = Scenes.busy(due);
        days(due, busy);
        land(busy);
        miles(busy);
        seen(busy);
        off(busy);
        clocks(due);
        due.end();
    }

    /** "-4; -6 above 4000." */
    private static void days(Due due, Scene busy) {
        busy.takes("days 0 = 12")
            .takes("days 1 = 13")
            .takes("days 3987 = 3999")
            .takes("days 3988 = 4000")
            .refuses("""
            days -1 = -4
            days -12 = -4
            days -2147483648 = -4
            days 3989 = -6
            days 4000 = -6
            days 4001 = -6
            days 2147483636 = -6      # with DAY 12 it would wrap around
            days 2147483647 = -6
            """);
        Scene.of(due, "the first DAY", "")
            .takes("days 4000 = 4000")
            .takes("days 0 = 0")
            .refuses("""
            days 4001 = -6
            days -1 = -4
            """);
        Scene.of(due, "the last DAY", "days 4000 = 4000")
            .takes("days 0 = 4000")
            .refuses("""
            days 1 = -6
            days 2147483647 = -6
            days -1 = -4
            days -4000 = -4
            """);
    }

    /** "PORTS 0 .. 9, each in a LAND (0 .. 3; 0 at first)"; "-1." */
    private static void land(Scene busy) {
        busy.takes("""
            land 0 3 = 1
            land 0 0 = 3
            land 9 3 = 1
            land 9 0 = 3
            land 3 0 = 0      # 0 at first
            """)
            .refuses("""
            land -1 0 = -1
            land 10 0 = -1
            land 0 -1 = -1
            land 0 4 = -1
            land 10 4 = -1
            land -2147483648 0 = -1
            land 2147483647 0 = -1
            land 0 -2147483648 = -1
            land 0 2147483647 = -1
            """);
    }

    /** "DISTANCE of two PORTS: told (0 .. 9999 miles; 0 at first, both ways alike)"; "-1 (also one); -4; -6." */
    private static void miles(Scene busy) {
        busy.takes("""
            miles 0 9 0 = 0          # 0 at first
            miles 9 0 9999 = 0
            miles 0 9 0 = 9999       # both ways alike
            miles 0 1 700 = 700
            miles 1 0 9998 = 700
            """)
            .refuses("""
            miles -1 1 5 = -1
            miles 10 1 5 = -1
            miles 1 -1 5 = -1
            miles 1 10 5 = -1
            miles 0 0 5 = -1         # also one
            miles 9 9 5 = -1
            miles -1 -1 5 = -1
            miles 2147483647 1 5 = -1
            miles 1 -2147483648 5 = -1
            miles 0 1 -1 = -4
            miles 0 1 -2147483648 = -4
            miles 0 1 10000 = -6
            miles 0 1 2147483647 = -6
            miles 10 1 -1 = -1       # the first that fits
            miles 1 10 10000 = -1
            miles 1 1 -1 = -1
            miles 1 1 10000 = -1
            """);
    }

    /** "PORT a's less PORT b's: -600 .. 600 minutes; told"; "-1 (also one); -4, -6." */
    private static void seen(Scene busy) {
        busy.takes("""
            seen 2 3 -600 = 1
            off 3 = 600
            """)
            .takes("""
            seen 2 3 600 = 1
            off 3 = -600
            """)
            .takes("""
            seen 9 0 0 = 1
            off 9 = 0
            off 8 = -5
            """)
            .refuses("""
            seen -1 1 5 = -1
            seen 10 1 5 = -1
            seen 1 -1 5 = -1
            seen 1 10 5 = -1
            seen 0 0 0 = -1          # also one, though its CLOCK shows what it shows
            seen 9 9 1 = -1
            seen 2147483647 1 5 = -1
            seen 1 -2147483648 5 = -1
            seen 2 3 -601 = -4
            seen 2 3 -2147483648 = -4
            seen 2 3 601 = -6
            seen 2 3 2147483647 = -6
            seen 0 1 601 = -6        # not even a QUARREL
            seen 0 1 -601 = -4
            seen 10 1 -601 = -1      # the first that fits
            seen 1 10 601 = -1
            seen 1 1 -601 = -1
            seen 1 1 601 = -1
            """)
            .leavesAllBut("count 8", """
            seen 0 1 19 = 0          # it QUARRELS and is not taken
            seen 0 1 21 = 0
            seen 1 0 20 = 0
            seen 9 8 4 = 0
            seen 9 8 -5 = 0
            """)
            .leavesAllBut("", """
            seen 0 1 20 = 1          # it fits, and tells nothing new
            seen 1 0 -20 = 1
            seen 9 8 5 = 1
            """);
    }

    /** "Refused as told: -1.", with "REFUSALS are 1000000000 less them". */
    private static void off(Scene busy) {
        busy.leavesAllBut("", """
            off 0 = 0
            off 1 = -20
            off 7 = 0
            off 8 = 0                # of the least PORT itself
            off 9 = 5
            """)
            .refuses("""
            off -1 = 1000000001
            off 10 = 1000000001
            off -2147483648 = 1000000001
            off 2147483647 = 1000000001
            """);
    }

    private static void clocks(Due due) {
        Script.of(due, "the least PORT with which it is joined so (by way of others)", """
            seen 9 8 600 = 1
            off 9 = 600
            off 8 = 0
            seen 7 8 600 = 1
            off 7 = 0
            off 8 = -600
            off 9 = 0
            seen 0 9 -600 = 1
            off 0 = 0
            off 9 = 600
            off 7 = 600
            off 8 = 0
            seen 8 0 0 = 1          # by way of 9
            seen 8 0 1 = 0
            count 8 = 1
            """);
        Script.of(due, "a chain of all PORTS", Scenes.times(9, "seen @ 9 0 = 1") + """
            seen 0 9 1 = 0
            seen 4 5 -1 = 0
            count 8 = 2
            """);
        String chain = "";
        for (int port = 0; port < 9; port++) chain += "seen " + (port + 1) + " " + port + " 600 = 1\n";
        Script.of(due, "beyond what can be told at once", chain + """
            off 9 = 5400
            seen 9 0 600 = 0
            seen 9 0 -600 = 0
            seen 9 8 600 = 1
            off 9 = 5400
            """);
        Script.of(due, "a QUARREL is not taken", """
            seen 3 4 10 = 1
            seen 3 4 11 = 0
            seen 4 3 -10 = 1
            seen 3 4 9 = 0
            off 4 = -10
            seen 5 4 1 = 1
            seen 5 3 -9 = 1
            seen 5 3 -10 = 0
            off 5 = -9
            count 8 = 3
            count 11 = 0
            count 13 = 0
            """);
    }
}
