import java.lang.management.ManagementFactory;

/** All rows are made with the object: a call makes nothing, so that no run leaves its room. */
public final class RoomTest {
    private static final Due DUE = new Due("RoomTest");
    private static final com.sun.management.ThreadMXBean MEMORY =
        (com.sun.management.ThreadMXBean) ManagementFactory.getThreadMXBean();

    public static void main(String[] args) {
        BarnSummers x = Barns.of("a90,a91,a92;c93,m94,s95;o96,s97,c98");
        calls(x);
        long before = MEMORY.getThreadAllocatedBytes(Thread.currentThread().getId());
        long sum = 0;
        for (int again = 0; again < 20; again++) {
            sum += calls(x);
        }
        long made = MEMORY.getThreadAllocatedBytes(Thread.currentThread().getId()) - before;
        DUE.holds("20 times all calls make nothing, but made " + made + " bytes (" + sum + ")", made < 4096);
        DUE.end();
    }

    private static long calls(BarnSummers x) {
        long sum = x.digest() + x.image() + x.see(0, 1, 2) + x.cut(0, 1) + x.day() + x.turn(1) + x.rain(2, 3);
        sum += x.lasts(1) + x.plan(4, 0) + x.plan(4, 13) + x.share(2) + x.share(3) + x.burnt(20);
        sum += x.winters(60, 1, 0) + x.cart(0, 7) + x.cart(0, 8) + x.bay(0, 3) + x.digest() + x.restore();
        return sum + x.forget() + x.letter('s') + x.fault() + x.barn() + x.blank();
    }
}
