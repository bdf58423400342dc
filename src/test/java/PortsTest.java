/** Promises 1 to 6: a new object, days, land, miles, seen, off. */
public final class PortsTest {
    public static void main(String[] args) {
        Due due = new Due();
        newObject(due);
        days(due);
        landsAndMiles(due);
        clocks(due);
        wrongClocks(due);
        due.end();
    }

    private static void newObject(Due due) {
        Script.of(due, "new object", """
            count 0 = 0
            count 1 = 0
            count 2 = 0
            count 3 = 0
            count 4 = 0
            count 5 = 0
            count 6 = 0
            count 7 = 0
            count 8 = 0
            back = 0
            set 0 30 = 30
            set 1 60 = 60
            set 2 45 = 45
            set 3 5 = 5
            """)
            .times(10, "land @ 0 = 0")
            .times(10, "off @ = 0")
            .times(9, "miles 9 @ 0 = 0")
            .times(4, "bar @ 365 = 365")
            .times(5, "balance @ = 0")
            .on("""
            legOf 0 0 = -1
            missed 0 = -1
            claimOf 0 0 = -1
            """);
    }

    private static void days(Due due) {
        Script.of(due, "days", """
            days 0 = 0
            days 3 = 3
            days -1 = -4
            days -2147483648 = -4
            days 3998 = -6
            days 2147483647 = -6
            count 0 = 3
            days 3997 = 4000
            days 0 = 4000
            days 1 = -6
            count 0 = 4000
            count 14 = 2
            count 16 = 3
            """);
    }

    private static void landsAndMiles(Due due) {
        Script.of(due, "land", """
            land 9 3 = 0
            land 9 1 = 3
            land 9 1 = 1
            land 8 1 = 0    # another PORT is as it was
            land -1 0 = -1
            land 10 0 = -1
            land 0 -1 = -1
            land 0 4 = -1
            count 11 = 4
            """);
        Script.of(due, "miles", """
            miles 3 7 9999 = 0
            miles 7 3 0 = 9999    # both ways alike
            miles 3 7 12 = 0
            miles 3 6 5 = 0
            miles 7 7 1 = -1
            miles -1 7 1 = -1
            miles 10 7 1 = -1
            miles 7 -1 1 = -1
            miles 7 10 -1 = -1
            miles 3 7 -1 = -4
            miles 3 7 10000 = -6
            miles 7 3 12 = 12    # what was refused changed nothing
            """);
    }

    private static void clocks(Due due) {
        Script.of(due, "clocks", """
            seen 5 4 -600 = 1
            off 4 = 0
            off 5 = -600
            seen 4 5 600 = 1      # the same told the other way round
            seen 4 5 599 = 0
            off 5 = -600
            seen 8 9 7 = 1
            off 9 = -7
            seen 9 5 20 = 1       # two groups become one: 9 shows 20 more than 5
            off 9 = -580
            off 8 = -573
            off 5 = -600
            seen 8 4 -573 = 1     # by way of others
            seen 8 4 -572 = 0
            seen 2 8 73 = 1       # a lesser PORT: all are told by it
            off 2 = 0
            off 4 = 500
            off 5 = -100
            off 8 = -73
            off 9 = -80
            off 0 = 0
            off 3 = 0
            count 8 = 2
            """);
        Script.of(due, "far clocks", """
            seen 1 0 600 = 1
            seen 2 1 600 = 1
            seen 3 2 600 = 1
            off 3 = 1800          # beyond what can be told at once
            seen 3 0 600 = 0
            count 8 = 1
            """);
    }

    private static void wrongClocks(Due due) {
        Script.of(due, "wrong clocks", """
            seen 4 4 0 = -1
            seen -1 4 0 = -1
            seen 10 4 0 = -1
            seen 4 -1 0 = -1
            seen 4 10 -700 = -1
            seen 4 5 -601 = -4
            seen 4 5 601 = -6
            off 5 = 0
            off -1 = 1000000001
            off 10 = 1000000001
            count 8 = 0
            count 11 = 7
            count 14 = 1
            count 16 = 1
            """);
    }
}
