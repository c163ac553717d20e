import java.lang.management.ManagementFactory;

/** What the dearest calls make: one run's calls share a room of some 7.3 million fields and elements. */
public final class RoomTest {
    private static final long MOST_BYTES_OF_A_CALL = 64;
    private static final long MOST_BYTES_OF_AN_OBJECT = 64 * 1024;

    private RoomTest() {
    }

    public static void main(String[] args) {
        var bean = (com.sun.management.ThreadMXBean) ManagementFactory.getThreadMXBean();
        use(new LeastPending());
        long start = bean.getCurrentThreadAllocatedBytes();
        LeastPending x = new LeastPending();
        long made = bean.getCurrentThreadAllocatedBytes();
        tell(x, "nodes 6;group 0 1 2 3 4 5;group 1 2 3 4 5;jitter 5;notice 3");
        for (int k = 0; k < 20; k++) {
            x.send(k % 6, k % 2);
        }
        // the row of PACKETS has grown by then, in all three nets
        use(x);
        long grown = bean.getCurrentThreadAllocatedBytes();
        for (int k = 0; k < 500; k++) {
            use(x);
        }
        long used = bean.getCurrentThreadAllocatedBytes();
        long aCall = (used - grown) / 500;
        System.out.println("an object: " + (made - start) + " bytes, grown: " + (grown - made) + ", a round of calls: " + aCall);
        if (made - start > MOST_BYTES_OF_AN_OBJECT || aCall > MOST_BYTES_OF_A_CALL || grown - made > 8 * MOST_BYTES_OF_AN_OBJECT) {
            System.out.println("too much is made");
            System.exit(1);
        }
    }

    private static void tell(LeastPending x, String text) {
        byte[] bytes = (text + " ".repeat(20)).getBytes(java.nio.charset.StandardCharsets.ISO_8859_1);
        java.nio.ByteBuffer all = java.nio.ByteBuffer.wrap(bytes);
        while (all.remaining() >= 20) {
            x.feed(all.getInt(), all.getInt(), all.getInt(), all.getInt(), all.getInt());
        }
        x.net();
    }

    private static void use(LeastPending x) {
        x.image();
        if (x.count(0) > 0) {
            x.takes(0);
            x.after(1, 0);
            x.due(5, 19);
            x.first(0, 19);
            x.chain(5, 19, 4);
            x.ticks(60);
            x.crash(0);
            x.crash(1);
            x.ticks(60);
            x.parted(2, 3);
            x.ahead(0, 1);
        }
        x.line(3);
        x.slowest();
        x.back();
    }
}
