import java.lang.management.ManagementFactory;

/** All calls of a run live in one room: the dearest ones make nothing that would count. */
public final class RoomTest {
    private static final int CALLS = 512;
    /** 7.3 million elements of at least a byte each are the room; a bench shall need a small part of it. */
    private static final long MOST_BYTES = 200_000;

    public static void main(String[] args) {
        fullBench().digest();
        int seen = 0;
        long before = allocated();
        NetlistBench x = fullBench();
        for (int call = 0; call < CALLS; call++) {
            seen += x.probe(call % 8, 0, 999, call % 2 == 0);
            seen += (int) x.digest() + x.levels(call) + (int) x.power(call);
            seen += (int) x.resistance(0, 7, call, true) + (int) x.feed(0, call, true);
        }
        long made = allocated() - before;
        Check.due("bytes made: " + made + " (" + seen + ")", "" + (made < MOST_BYTES), "true");
        Check.end();
    }

    private static long allocated() {
        return ((com.sun.management.ThreadMXBean) ManagementFactory.getThreadMXBean())
            .getThreadAllocatedBytes(Thread.currentThread().getId());
    }

    /** 8 nodes in a ring with spokes, 20 elements, and toggles of sources alone at 6 times each. */
    private static NetlistBench fullBench() {
        NetlistBench x = new NetlistBench();
        for (int node = 0; node < 8; node++) {
            x.addNode();
        }
        x.rail(0, true, 99);
        for (int i = 0; i < 16; i++) {
            x.addElement(false, i % 8, (i + 1 + i / 8) % 8, 9);
        }
        for (int i = 0; i < 4; i++) {
            int source = x.addElement(true, i, i + 4, 99);
            for (int k = 1; k <= 6; k++) {
                x.toggle(source, 100 * k + i);
            }
        }
        return x;
    }
}
