import java.lang.management.ManagementFactory;

/** All calls of one run live in one room: what an object needs is made with it, and no call makes more. */
public final class RoomTest {
    private static final int MOST_BYTES_OF_ONE = 64 * 1024, MOST_BYTES_OF_CALLS = 4 * 1024, ROUNDS = 3;
    private static final Check check = new Check();

    private RoomTest() {
    }

    public static void main(String[] args) {
        if (!(ManagementFactory.getThreadMXBean() instanceof com.sun.management.ThreadMXBean threads)
                || !threads.isThreadAllocatedMemorySupported()) {
            System.out.println("this machine does not count what is made");
            return;
        }
        // the first rounds load classes, which is no making of the program's own
        for (int round = 1; round < ROUNDS; round++) {
            useAll(new SpentWeeks());
        }
        long ahead = made();
        SpentWeeks x = new SpentWeeks();
        long ofOne = made() - ahead;
        check.due("bytes of an object: " + ofOne, ofOne <= MOST_BYTES_OF_ONE ? 1 : 0, 1);
        ahead = made();
        useAll(x);
        long ofCalls = made() - ahead;
        check.due("bytes that calls made: " + ofCalls, ofCalls <= MOST_BYTES_OF_CALLS ? 1 : 0, 1);
        check.end();
    }

    private static long made() {
        com.sun.management.ThreadMXBean threads = (com.sun.management.ThreadMXBean) ManagementFactory.getThreadMXBean();
        return threads.getThreadAllocatedBytes(Thread.currentThread().getId());
    }

    /** Every call, the dear ones often. */
    private static void useAll(SpentWeeks x) {
        Check.county(x, "y9,20;c5,10,50;s9,4,0;h3,30,99;t7,20,5;p6,15,40;c0,0,0;");
        x.row(0, 1, 16);
        for (int k = 0; k < 16; k++) {
            x.set(0, k, k + 1);
        }
        x.row(1, 1, 36);
        for (int k = 0; k < 36; k++) {
            x.set(1, k, k % 4);
        }
        for (int k = 0; k < 12; k++) {
            act(x, k);
            foretell(x);
            ask(x);
        }
    }

    private static void act(SpentWeeks x, int k) {
        x.sentence(k % 6, 40);
        x.deed(0, 20);
        x.sale(k % 6, (k + 1) % 6, 3, 4);
        x.pays(0, 1);
        x.month(k + 1);
        x.dies(4, 5);
        x.pardon(3);
        x.undo();
        x.image(0);
        x.restore(k % 4 == 3 ? 0 : 1);
        x.copy(0, 0, 0, 1, 9);
        x.drop(3);
    }

    private static void foretell(SpentWeeks x) {
        x.ahead(0, 60, 7, 0);
        x.lapsed(0, 60);
        x.triedFirst(60, 7, 1);
        x.cover(0, 0, 0, 12);
        x.bestOrder(4, 0, 0, 6, 0);
        x.market(50, 0);
        x.atRest(1);
        x.ring(1, 0, 9, 1);
        x.wrong(0, 0, -1);
        x.satFor(0, 0, 16, 60, 0);
    }

    private static void ask(SpentWeeks x) {
        x.kind(0);
        x.as(1, 4);
        x.ask(1, 0);
        x.trace(0);
        x.count(3);
        x.status();
        x.fault();
        x.person(0, 0);
        x.lot(0, 0, 0);
    }
}
