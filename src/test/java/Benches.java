/** Benches that tests begin with, and numbers that are out of bounds. */
final class Benches {
    static final int MOST_NODES = 8;
    static final int MOST_ELEMENTS = 20;
    /** How many of its 512 calls a crowded bench has behind it. */
    static final int CALLS_FOR_CROWDED = 8 + 2 + 20 + 20 * 6;
    static final int[] TIMES = {0, 1, 2, 31, 32, 255, 256, 511, 512, 998, 999};
    static final int[] NO_TIMES = {-1, 1000, 1001, -999, 65536, Integer.MIN_VALUE, Integer.MAX_VALUE};

    private Benches() {
    }

    static NetlistBench of(int nodes) {
        NetlistBench x = new NetlistBench();
        for (int i = 0; i < nodes; i++) {
            x.addNode();
        }
        return x;
    }

    /** Node 0 at 0, node 2 at 10, node 1 between them: conductor 0 (2 to 1) of 3, conductor 1 (1 to 0) of 2. */
    static NetlistBench divider() {
        NetlistBench x = of(3);
        x.rail(0, true, 0);
        x.rail(2, true, 10);
        x.addElement(false, 2, 1, 3);
        x.addElement(false, 1, 0, 2);
        return x;
    }

    /** As many elements between node 0 and node 1 (of two): a source, a conductor, and so on. */
    static NetlistBench withElements(int elements) {
        NetlistBench x = of(2);
        for (int i = 0; i < elements; i++) {
            x.addElement(i % 2 == 0, 0, 1, 1 + i % 9);
        }
        return x;
    }

    /** A row of nodes, each held to the next one by a conductor of this size: conductor i from i + 1 to i. */
    static NetlistBench row(int nodes, int size) {
        NetlistBench x = of(nodes);
        for (int i = 0; i + 1 < nodes; i++) {
            x.addElement(false, i + 1, i, size);
        }
        return x;
    }

    /** Nothing more goes in: 8 nodes, 16 conductors and 4 sources, 6 toggles each; 0 and 5 are rails. */
    static NetlistBench crowded() {
        NetlistBench x = of(MOST_NODES);
        x.rail(0, true, 99);
        x.rail(5, true, -42);
        for (int i = 0; i < 16; i++) {
            x.addElement(false, i % 8, (i + 1 + i / 8) % 8, 1 + i % 9);
        }
        for (int i = 0; i < 4; i++) {
            x.addElement(true, i, i + 4, 20 * i - 35);
        }
        for (int i = 0; i < MOST_ELEMENTS; i++) {
            for (int time : new int[] {999, 400 + i, 200 + i, 300 + i, 100 + i, 1}) {
                x.toggle(i, time);
            }
        }
        return x;
    }

    /** All that a bench tells of its circuit, and its potentials at the first and the last time. At most 263 calls. */
    static String told(NetlistBench x) {
        StringBuilder told = new StringBuilder();
        int nodes = x.count(0);
        int elements = x.count(1);
        told.append(nodes).append(' ').append(elements).append(' ').append(x.count(2)).append(' ').append(x.count(3));
        for (int i = 0; i < elements; i++) {
            int toggles = 0;
            for (int what = 0; what < 6; what++) {
                toggles = x.element(i, what);
                told.append(' ').append(toggles);
            }
            for (int index = 0; index < toggles; index++) {
                told.append(' ').append(x.toggleAt(i, index));
            }
        }
        for (int i = 0; i < nodes; i++) {
            int node = i;
            told.append(' ').append(Check.outcome(() -> x.potential(node, 0, true)));
            told.append(' ').append(Check.outcome(() -> x.potential(node, 999, true)));
        }
        return told.append(' ').append(x.power(0)).append(' ').append(x.digest()).toString();
    }

    /** Numbers that are none of 0 to count - 1. */
    static int[] outside(int count) {
        return new int[] {-1, -2, -count - 1, count, count + 1, 32, 33, 64, 256, 65536, 1 << 30,
            Integer.MIN_VALUE, Integer.MIN_VALUE + 1, Integer.MAX_VALUE};
    }
}
