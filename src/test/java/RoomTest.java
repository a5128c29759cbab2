import java.lang.management.ManagementFactory;

/** All calls of a run live in one room: the dearest ones make no objects, and a new object makes few. */
public final class RoomTest {
    private static final Check CHECK = new Check();
    private static final com.sun.management.ThreadMXBean THREADS =
            (com.sun.management.ThreadMXBean) ManagementFactory.getThreadMXBean();

    public static void main(String[] args) {
        dearCalls(1);
        long before = taken();
        OralOrders x = dearCalls(0);
        long made = taken() - before;
        CHECK.holds("a new object takes " + made + " bytes", made < 60_000);
        before = taken();
        dear(x);
        long most = taken() - before;
        CHECK.holds("512 calls take " + most + " bytes", most < 10_000);
        CHECK.end();
    }

    private static long taken() {
        return THREADS.getThreadAllocatedBytes(Thread.currentThread().getId());
    }

    private static OralOrders dearCalls(int times) {
        OralOrders x = Check.group(2, 1, 2, 3, 4, 5, 6, 7);
        Check.lies(x, "liar 0{split 1 2;}liar 5{round 2 word;to 3 silent;value 9;}");
        for (int i = 0; i < times; i++) {
            dear(x);
        }
        return x;
    }

    private static void dear(OralOrders x) {
        long sum = 0;
        for (int i = 0; i < 32; i++) {
            sum += x.run(i % 7) + x.gains() + x.agreeing() + x.most(i % 7, 0) + x.order(1, 2);
            sum += x.signed(0, 1) + x.taken(0, 1, 0, 0) + x.kings(1) + x.echoes(0, 3) + x.echoesOf(1, 2, 3);
            sum += x.attacks(4, 2, 0, 2) + x.steps(0, 1, 0) + x.total(60, 1) + (x.covered() ? 1 : 0);
            sum += x.cut(1, 2) + x.member(1, 5);
        }
        CHECK.holds("they answer", sum != 0);
    }
}
