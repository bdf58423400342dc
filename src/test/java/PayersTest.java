import java.util.Random;

/** Promises 28 to 32: owes, pay, due, balance, back. */
public final class PayersTest {
    public static void main(String[] args) {
        Due due = new Due();
        owes(due);
        pays(due);
        dues(due);
        balances(due);
        backs(due);
        anyBacks(due);
        due.end();
    }

    private static void owes(Due due) {
        Script.of(due, "owes", """
            owes 0 0 1 = -1
            leg 0 1 0 0 100 200 = 0
            traveller 0 = 0
            traveller 0 = 1
            owes 4 1 9999 = 0
            owes 4 1 0 = 9999
            owes 4 0 5 = 0
            owes 3 1 6 = 0
            owes 4 1 7 = 0
            owes -1 0 -1 = -1
            owes 5 0 1 = -1
            owes 0 -1 1 = -1
            owes 0 2 1 = -1
            owes 0 0 -1 = -4
            owes 0 0 10000 = -6
            owes 0 0 0 = 0
            """);
    }

    private static void pays(Due due) {
        Script.of(due, "pay", """
            leg 0 1 0 0 100 200 = 0
            traveller 0 = 0
            pay 0 0 1 = -1
            claim 0 = 0
            pay 0 -1 0 = -1
            pay 0 5 1 = -1
            pay -1 0 1 = -1
            pay 1 0 1 = -1
            pay 0 0 0 = -4
            pay 0 0 -2147483648 = -4
            pay 0 0 10000 = -6
            pay 0 0 2147483647 = -6
            pay 0 0 9999 = 9999
            pay 0 1 1 = 10000
            """);
        Script full = Script.of(due, "99999", """
            leg 0 1 0 0 100 200 = 0
            traveller 0 = 0
            claim 0 = 0
            """);
        for (int i = 1; i <= 10; i++) full.on("pay 0 " + i % 5 + " 9999 = " + i * 9999);
        full.on("""
            pay 0 0 10 = -6
            pay 0 0 9 = 99999
            pay 0 0 1 = -6
            claimOf 0 4 = 99999
            """);
    }

    private static void dues(Due due) {
        Script.of(due, "due", """
            leg 0 1 0 0 100 200 = 0
            traveller 0 = 0
            law 0 0 0 0 100 = 0
            claim 0 = 0
            due 0 0 = 0
            owes 1 0 40 = 0
            owes 3 0 50 = 0
            due 0 0 = 0
            due 0 1 = 40
            due 0 2 = 0
            due 0 3 = 50
            due 0 4 = 0
            owes 4 0 9999 = 0
            due 0 4 = 10         # what is left of WORTH
            owes 0 0 70 = 0
            due 0 0 = 70
            due 0 1 = 30
            due 0 3 = 0
            due 0 4 = 0
            owes 0 0 100 = 70
            due 0 0 = 100
            due 0 1 = 0
            due 0 -1 = -1
            due 0 5 = -1
            due -1 0 = -1
            due 1 0 = -1
            """);
    }

    private static void balances(Due due) {
        Script.of(due, "balance", """
            leg 0 1 0 0 100 200 = 0
            traveller 0 = 0
            traveller 0 = 1
            law 0 0 0 0 100 = 0
            claim 1 = 0
            owes 2 1 100 = 0
            pay 0 3 99 = 99
            balance 3 = 0          # not SETTLED to WORTH
            balance 2 = 0
            pay 0 3 1 = 100
            balance 3 = 100
            balance 2 = -100
            pay 0 2 25 = 125       # OVER
            balance 2 = -75
            claim 0 = 1
            owes 3 0 60 = 0
            pay 1 2 100 = 100
            balance 2 = 25
            balance 3 = 40
            balance 0 = 0
            log 0 100 200 = 1
            law 0 0 0 0 200 = 1    # now neither is SETTLED to WORTH
            balance 2 = 0
            balance 3 = 0
            balance -1 = 1000000001
            balance 5 = 1000000001
            count 11 = 2
            """);
    }

    private static void backs(Due due) {
        Script.of(due, "back", """
            leg 0 1 0 0 100 200 = 0
            traveller 0 = 0
            traveller 0 = 1
            traveller 0 = 2
            law 0 0 0 0 100 = 0
            claim 0 = 0
            claim 1 = 1
            claim 2 = 2
            back = 0               # nothing is SETTLED to WORTH
            owes 1 0 100 = 0
            pay 0 0 100 = 100
            back = 1
            owes 3 1 100 = 0
            pay 1 2 100 = 100
            back = 2               # two sets of two
            owes 4 2 100 = 0
            pay 2 3 100 = 100
            balance 3 = 0
            balance 4 = -100
            back = 2
            owes 4 2 40 = 100
            back = -9              # 60 is nobody's
            owes 0 2 60 = 0
            owes 4 2 40 = 40
            balance 0 = 40
            balance 1 = -100
            balance 2 = 100
            balance 3 = 0
            balance 4 = -40
            back = 2
            owes 3 2 1 = 0
            back = 3               # 40, -39, -1 and 100, -100
            """);
    }

    /** Each CLAIM moves what one PAYER is DUE to another, so that all kinds of BALANCES come. */
    private static void anyBacks(Due due) {
        Random random = new Random(5);
        int[] came = new int[5];
        for (int run = 0; run < 400; run++) {
            LateClaims x = new LateClaims();
            Model model = new Model();
            x.leg(0, 1, 0, 0, 100, 200);
            model.call("leg", 0, 1, 0, 0, 100, 200);
            x.law(0, 0, 0, 0, 6);
            model.call("law", 0, 0, 0, 0, 6);
            int many = 1 + random.nextInt(8);
            for (int i = 0; i < many; i++) {
                int payer = random.nextInt(5);
                int paid = random.nextInt(5);
                int part = random.nextInt(7);
                x.traveller(0);
                model.call("traveller", 0);
                x.claim(i);
                model.call("claim", i);
                x.owes(payer, i, part);
                model.call("owes", payer, i, part);
                x.owes(4, i, 6);
                model.call("owes", 4, i, 6);
                x.pay(i, paid, 6);
                model.call("pay", i, paid, 6);
                int back = model.call("back");
                if (back >= 0) came[back]++;
                due.is("any back, run " + run + ", claim " + i, x.back(), back);
            }
        }
        for (int back = 0; back < 5; back++) due.holds("back came to be " + back, came[back] > 0);
    }
}
