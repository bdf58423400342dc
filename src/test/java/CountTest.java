/** Promise 36: count, and that a refusal changes nothing but how many there were. */
public final class CountTest {
    public static void main(String[] args) {
        Due due = new Due();
        counts(due);
        refusals(due);
        others(due);
        due.end();
    }

    private static void counts(Due due) {
        Script.of(due, "count", """
            days 800 = 800
            leg 0 1 0 0 100 200 = 0
            leg 0 1 0 0 100 200 = 1
            leg 0 1 0 0 100 200 = 2
            log 0 0 0 = 1
            log 1 0 0 = 1
            log 1 0 0 = 0
            traveller 0 = 0
            traveller 0 = 1
            traveller 0 = 2
            traveller 0 = 3
            law 0 800 0 0 1 = 0
            claim 0 = 0
            claim 1 = 1
            claim 2 = 2
            judged 0 0 0 0 true 0 = 0
            judged 0 0 0 0 true 0 = 1
            judged 0 0 0 0 true 0 = 2
            judged 0 0 0 0 true 0 = 3
            judged 0 0 0 0 true 0 = 4
            seen 0 1 1 = 1
            seen 0 1 2 = 0
            seen 0 1 3 = 0
            count 0 = 800
            count 1 = 3
            count 2 = 2
            count 3 = 4
            count 4 = 1
            count 5 = 3
            count 6 = 3
            count 7 = 5
            count 8 = 2
            """);
    }

    private static void refusals(Due due) {
        Script.of(due, "refusals", """
            land 10 0 = -1
            off 10 = 1000000001
            balance 9 = 1000000001
            leg 0 1 0 0 0 1 = 0
            set 9 0 = -2
            legOf 0 6 = -2
            traveller 0 = 0
            claim 0 = 0
            odds 0 5 = 1000000002
            claim 0 = -3
            days -1 = -4
            days -1 = -4
            legOf 0 0 = -5
            saved 0 0 = -5
            minutes 0 0 = -5
            days 4001 = -6
            count 11 = 3
            count 12 = 3
            count 13 = 1
            count 14 = 2
            count 15 = 3
            count 16 = 1
            then 0 0 = -3
            count 13 = 2
            ahead 0 false = -9     # no REFUSAL
            missed 0 = 0
            count 11 = 3
            """);
    }

    private static void others(Due due) {
        Script.of(due, "another what", """
            count 9 = -9
            count 10 = -9
            count 17 = -9
            count -1 = -9
            count 2147483647 = -9
            count -2147483648 = -9
            count 11 = 0
            count 12 = 0
            """);
    }
}
