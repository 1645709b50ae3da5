import java.lang.management.ManagementFactory;

/** The greatest object, with its 512 dearest calls: how much room and time they take. */
public final class RoomTest {
    private static final long MOST_BYTES_OF_AN_OBJECT = 400_000;
    private static final long MOST_BYTES_OF_CALLS = 100_000;

    private static long bytes() {
        com.sun.management.ThreadMXBean bean = (com.sun.management.ThreadMXBean) ManagementFactory.getThreadMXBean();
        return bean.getThreadAllocatedBytes(Thread.currentThread().getId());
    }

    private static long run(FrequencySketches x) {
        long sum = 0;
        for (int i = 0; i < 200; i++) {
            sum += x.add(i & 3, i * 541 % 65521, 1 + i * 7 % 1000);
        }
        for (int i = 0; i < 70; i++) {
            sum += x.join(i & 3, i * 3 & 3) + x.audit(i & 3) + (x.copy(i & 3, i >> 2 & 3) ? 1 : 0);
        }
        for (int i = 0; i < 51; i++) {
            sum += x.report(i & 3, i % 5, 100000, i % 3 == 0) + x.reported(i, 0);
        }
        return sum;
    }

    public static void main(String[] args) {
        run(new FrequencySketches(65521, 256, 8, 64));
        long before = bytes();
        FrequencySketches x = new FrequencySketches(65521, 256, 8, 64);
        long made = bytes() - before;
        before = bytes();
        long sum = run(x);
        long used = bytes() - before;
        System.out.println("an object: " + made + " bytes; its calls: " + used + " bytes (" + sum + ")");
        if (made > MOST_BYTES_OF_AN_OBJECT || used > MOST_BYTES_OF_CALLS) {
            System.exit(1);
        }
    }
}
