import java.lang.management.ManagementFactory;

/** How much room objects and their calls take: the calls themselves must make nothing. */
public final class RoomTest {
    private static final com.sun.management.ThreadMXBean MEMORY =
            (com.sun.management.ThreadMXBean) ManagementFactory.getThreadMXBean();

    public static void main(String[] args) {
        long used = 0;
        long made = 0;
        // The first rounds also load classes; only the last one counts.
        for (int round = 0; round < 5; round++) {
            long start = bytes();
            BatchMachine x = new BatchMachine();
            made = bytes() - start;
            start = bytes();
            callAll(x);
            used = bytes() - start;
        }
        System.out.println("an object takes " + made + " bytes, its 512 calls " + used);
        Checks.compare("an object takes at most 100,000 bytes", "" + (made <= 100000), "true");
        Checks.compare("512 calls take at most 1,000 bytes", "" + (used <= 1000), "true");
        Checks.close();
    }

    private static long bytes() {
        return MEMORY.getThreadAllocatedBytes(Thread.currentThread().getId());
    }

    /** 512 calls, with eight jobs for most of them. */
    private static long callAll(BatchMachine x) {
        long sum = 0;
        for (int j = 0; j < 8; j++) {
            sum += x.addJob(j % 3, 5 + j * 3, j * 7 % 20, 20 + j * 5 % 40, 1 + j % 9);
        }
        for (int k = 0; k < 24; k++) {
            sum += x.setSetup(k % 5 - 1, k % 4, k) + x.setMode(k % 2 == 0, k % 3 == 0)
                    + x.setObjective(k % 6) + x.setJob(k % 8, 2, k) + x.bestCost() + x.keepBest()
                    + x.keepRule(k % 4) + x.improve(50) + x.bestWithout(k % 8)
                    + x.bestWithFirst(k % 8) + x.latestRelease(k % 8) + x.setupPrice()
                    + x.append(48 + k % 8) + x.parse() + x.clearText() + x.digest() + x.cost()
                    + x.total(2) + x.planned(k % 8, 1) + x.batches() + x.undo();
        }
        return sum;
    }
}
