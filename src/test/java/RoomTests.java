import java.lang.management.ManagementFactory;

/**
 * All calls of one run live in one room: a new object may make its rows, the 512 calls behind it
 * next to nothing. Looks at the bytes that the calls take, the dearest ones among them.
 */
public final class RoomTests {
    private static final int CALLS = 512;
    private static final long BYTES_FOR_AN_OBJECT = 200_000;
    private static final long BYTES_FOR_ALL_CALLS = 20_000;

    public static void main(String[] args) {
        com.sun.management.ThreadMXBean bean =
                (com.sun.management.ThreadMXBean) ManagementFactory.getThreadMXBean();
        if (!bean.isThreadAllocatedMemorySupported()) {
            System.out.println("room: this machine cannot tell the bytes");
            return;
        }
        // once before, so that loading the classes is not measured
        calls(new DataMaker());
        long start = bean.getCurrentThreadAllocatedBytes();
        DataMaker x = new DataMaker();
        long made = bean.getCurrentThreadAllocatedBytes();
        long sum = calls(x);
        long end = bean.getCurrentThreadAllocatedBytes();
        System.out.println("room: " + (made - start) + " bytes for an object, " + (end - made)
                + " for its calls (" + sum + ")");
        if (made - start > BYTES_FOR_AN_OBJECT || end - made > BYTES_FOR_ALL_CALLS) {
            System.exit(1);
        }
    }

    private static long calls(DataMaker x) {
        x.addType();
        x.addConstructor(0, 9, 9, 9, 5);
        x.addConstructor(0, 0, 9, 0, 1);
        x.addConstructor(0, 9, 9, 0, 1);
        long sum = 0;
        for (int call = 4; call + 8 <= CALLS; call += 8) {
            sum += x.setRange(0, call % 16 == 4 ? 5 : 4) ? 1 : 0;
            sum += x.horizon();
            sum += x.draw(0, 1, call);
            sum += x.reductionCount();
            sum += x.reduce(1 + call % 5);
            sum += x.tell(100) + x.read(0);
            sum += x.digest();
        }
        return sum;
    }
}
