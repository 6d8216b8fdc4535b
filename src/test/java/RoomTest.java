import java.lang.management.ManagementFactory;

/** All calls of a run live in one room: the dearest ones make nothing that would count. */
public final class RoomTest {
    private static final int CALLS = 512;
    /** 7.3 million elements of at least a byte each are the room; a bench shall need a small part of it. */
    private static final long MOST_BYTES = 200_000;

    private static final int KINDS = 7;

    public static void main(String[] args) {
        for (int kind = 0; kind < KINDS; kind++) {
            run(kind);
        }
        for (int kind = 0; kind < KINDS; kind++) {
            int told = kind;
            long before = allocated();
            long seen = run(told);
            long made = allocated() - before;
            Check.due("kind " + told + ", bytes made: " + made + " (" + seen + ")", "" + (made < MOST_BYTES), "true");
        }
        Check.end();
    }

    /** All calls that are left, when the bench is full, are of one kind. */
    private static long run(int kind) {
        NetlistBench x = Benches.crowded();
        long seen = 0;
        for (int call = Benches.CALLS_FOR_CROWDED; call < CALLS; call++) {
            seen += ask(x, kind, call);
        }
        return seen;
    }

    private static long ask(NetlistBench x, int kind, int call) {
        switch (kind) {
            case 0:
                return x.probe(call % 8, 0, 999, call % 2 == 0);
            case 1:
                return x.digest();
            case 2:
                return x.levels(call);
            case 3:
                return (long) x.power(call);
            case 4:
                return x.resistance(0, 7, 0, call % 2 == 0);
            case 5:
                return x.feed(0, call, true);
            default:
                return x.toggle(call % 20, 1);
        }
    }

    private static long allocated() {
        return ((com.sun.management.ThreadMXBean) ManagementFactory.getThreadMXBean())
            .getThreadAllocatedBytes(Thread.currentThread().getId());
    }
}
