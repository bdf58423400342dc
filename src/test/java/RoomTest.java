import java.lang.management.ManagementFactory;

/** All calls of a run live in one room: the dearest calls, many times over, make next to nothing. */
public final class RoomTest {
    private static final long BYTES_OF_AN_OBJECT = 40_000;

    public static void main(String[] args) {
        Due due = new Due();
        com.sun.management.ThreadMXBean thread = (com.sun.management.ThreadMXBean) ManagementFactory.getThreadMXBean();
        useUp();
        long before = thread.getCurrentThreadAllocatedBytes();
        int answers = useUp();
        long made = thread.getCurrentThreadAllocatedBytes() - before;
        due.holds("the calls were answered", answers >= 512);
        due.holds("one object and 512 calls took " + made + " bytes", made < BYTES_OF_AN_OBJECT);
        due.end();
    }

    private static int useUp() {
        LateClaims x = new LateClaims();
        int calls = 0;
        for (int i = 0; i < 40; i++, calls += 2) {
            x.leg(i % 3, (i + 1) % 3, i % 2, i % 3, i * 100, i * 100 + 60);
            x.log(i, i * 100 + 90, i * 100 + 170);
        }
        x.law(0, 0, 0, 0, 900);
        for (int i = 0; i < 20; i++, calls += 3) {
            x.traveller(i);
            x.claim(i);
            x.pay(i, i % 5, 900);
        }
        for (int i = 0; i < 40; i++, calls++) x.judged(0, 0, i, i, true, i);
        for (int i = 0; i < 100; i++, calls += 4) {
            x.back();
            x.odds(0, 2);
            x.soonest(0);
            x.minutes(39, 0);
        }
        return calls;
    }
}
