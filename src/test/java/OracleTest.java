import java.util.Random;

/** Runs of calls drawn from fixed seeds, each answer against that of the slow bench. */
public final class OracleTest {
    private static final int RUNS = 500;
    private static final int WIDE_RUNS = 50;
    /** What an object answers later on is not promised. */
    private static final int CALLS = 512;
    private static final int[] ODD = {-1, 0, 1, 7, 8, 20, 999, 1000, Integer.MIN_VALUE, Integer.MAX_VALUE};

    private final NetlistBench x = new NetlistBench();
    private final Oracle oracle = new Oracle();
    private final Random random;
    private final int seed;
    /** Runs differ in how many nodes and rails they get, how wide their times spread, and how sizes are drawn. */
    private final int nodes;
    private final double railShare;
    private final int lastTime;
    private final boolean isExtreme;
    private int done = 0;

    private OracleTest(int seed) {
        this.seed = seed;
        random = new Random(seed);
        nodes = 1 + random.nextInt(8);
        railShare = random.nextInt(4) * 0.15;
        lastTime = new int[] {3, 12, 60, 999}[random.nextInt(4)];
        isExtreme = random.nextBoolean();
    }

    public static void main(String[] args) {
        for (int seed = 0; seed < RUNS; seed++) {
            new OracleTest(seed).run();
        }
        for (int seed = 0; seed < WIDE_RUNS; seed++) {
            new OracleTest(seed).runWide();
        }
        Check.end();
    }

    private void run() {
        for (int i = 0; i < nodes; i++) {
            due("addNode", () -> x.addNode(), oracle.addNode());
        }
        for (int node = 0; node < nodes; node++) {
            int told = node;
            int potential = potential();
            if (node == 0 || random.nextDouble() < railShare) {
                due("rail", () -> x.rail(told, true, potential), oracle.rail(told, true, potential));
            }
        }
        int elements = random.nextInt(21);
        for (int i = 0; i < elements; i++) {
            addElement(random.nextInt(10) < 2);
        }
        while (done < CALLS) {
            if (random.nextInt(3) == 0) {
                change(random.nextInt(20));
            } else {
                ask(random.nextInt(16));
            }
        }
    }

    /** Fractions as wide as they get: one rail, and nearly all conductors great and on. */
    private void runWide() {
        for (int node = 0; node < 8; node++) {
            due("addNode", () -> x.addNode(), oracle.addNode());
        }
        due("rail", () -> x.rail(7, true, 99), oracle.rail(7, true, 99));
        for (int i = 0; i < 20; i++) {
            boolean isSource = i % 7 == 6;
            int a = i % 8;
            int b = (a + 1 + random.nextInt(7)) % 8;
            int size = isSource ? 99 - random.nextInt(199) : 9 - random.nextInt(2);
            int number = i;
            due("addElement", () -> x.addElement(isSource, a, b, size), oracle.addElement(isSource, a, b, size));
            due("toggle", () -> x.toggle(number, 1 + 2 * number), oracle.toggle(number, 1 + 2 * number));
            due("toggle", () -> x.toggle(number, 3 + 2 * number), oracle.toggle(number, 3 + 2 * number));
        }
        for (int node = 0; node < 8; node++) {
            int told = node;
            int time = random.nextInt(40);
            for (boolean flag : new boolean[] {false, true}) {
                due("potential", () -> x.potential(told, time, flag), oracle.potential(told, time, flag));
                due("resistance", () -> x.resistance(told, 7, time, flag), oracle.resistance(told, 7, time, flag));
                due("current", () -> x.current(told, time, flag), oracle.current(told, time, flag));
                due("probe", () -> x.probe(told, 0, 999, flag), oracle.probe(told, 0, 999, flag));
            }
        }
        due("digest", () -> x.digest(), oracle.digest());
    }

    private void due(String what, Check.Call call, Object want) {
        done++;
        Check.due("seed " + seed + ", call " + done + ", " + what, Check.outcome(call), String.valueOf(want));
    }

    // ---- what the calls are told

    private boolean isOdd() {
        return random.nextInt(40) == 0;
    }

    private int drawn(int least, int most) {
        return isOdd() ? ODD[random.nextInt(ODD.length)] : least + random.nextInt(most - least + 1);
    }

    private int node() {
        return drawn(0, nodes - 1);
    }

    private int number() {
        int elements = (int) oracle.count(1);
        return drawn(0, Math.max(0, elements - 1));
    }

    private int time() {
        return drawn(0, lastTime);
    }

    private int potential() {
        return isExtreme ? 99 - 198 * random.nextInt(2) : -99 + random.nextInt(199);
    }

    private int size(boolean isSource) {
        if (isOdd()) {
            return new int[] {0, 9, 10, -1, 99, 100, -99, -100, Integer.MIN_VALUE}[random.nextInt(9)];
        }
        if (isSource) {
            return potential();
        }
        return isExtreme ? 9 - random.nextInt(2) : 1 + random.nextInt(9);
    }

    // ---- the calls

    private void addElement(boolean isSource) {
        int a = node();
        int b = random.nextInt(20) == 0 ? a : node();
        int size = size(isSource);
        due("addElement", () -> x.addElement(isSource, a, b, size), oracle.addElement(isSource, a, b, size));
    }

    private void change(int what) {
        int node = node();
        int element = number();
        boolean flag = random.nextBoolean();
        int time = time();
        if (what == 0) {
            if (random.nextInt(4) == 0 && nodes == 8) {
                due("addNode", () -> x.addNode(), oracle.addNode());
            }
        } else if (what <= 3) {
            boolean isRail = random.nextDouble() < railShare + 0.2;
            int potential = isOdd() ? -100 + 200 * random.nextInt(2) : potential();
            due("rail", () -> x.rail(node, isRail, potential), oracle.rail(node, isRail, potential));
        } else if (what <= 5) {
            addElement(flag);
        } else if (what <= 8) {
            boolean isSource = "1".equals(String.valueOf(oracle.element(element, 0)));
            int size = size(isSource);
            due("resize", () -> x.resize(element, size), oracle.resize(element, size));
        } else if (what <= 10) {
            due("begin", () -> x.begin(element, flag), oracle.begin(element, flag));
        } else {
            due("toggle", () -> x.toggle(element, time), oracle.toggle(element, time));
        }
    }

    private void ask(int what) {
        int node = node();
        int other = node();
        int element = number();
        boolean flag = random.nextBoolean();
        int time = time();
        int trait = drawn(0, 5);
        switch (what) {
            case 0 -> due("count", () -> x.count(trait), oracle.count(trait));
            case 1 -> due("element", () -> x.element(element, trait), oracle.element(element, trait));
            case 2 -> due("toggleAt", () -> x.toggleAt(element, trait), oracle.toggleAt(element, trait));
            case 3 -> due("isOn", () -> x.isOn(element, time), oracle.isOn(element, time));
            case 4 -> due("together", () -> x.together(node, time), oracle.together(node, time));
            case 5 -> due("floats", () -> x.floats(node, time), oracle.floats(node, time));
            case 6, 7 -> due("potential", () -> x.potential(node, time, flag), oracle.potential(node, time, flag));
            case 8 -> due("current", () -> x.current(element, time, flag), oracle.current(element, time, flag));
            case 9 -> due("feed", () -> x.feed(node, time, flag), oracle.feed(node, time, flag));
            case 10 -> due("resistance", () -> x.resistance(node, other, time, flag),
                oracle.resistance(node, other, time, flag));
            case 11 -> due("power", () -> x.power(time), oracle.power(time));
            case 12 -> due("nextToggle", () -> x.nextToggle(time), oracle.nextToggle(time));
            case 13 -> probe(node, time, time(), flag);
            case 14 -> compare(node, time);
            default -> {
                due("levels", () -> x.levels(time), oracle.levels(time));
                if (flag && done < CALLS) {
                    due("digest", () -> x.digest(), oracle.digest());
                }
            }
        }
    }

    private void probe(int node, int time, int otherTime, boolean isMost) {
        boolean isInOrder = random.nextInt(20) != 0;
        int from = isInOrder ? Math.min(time, otherTime) : time;
        int to = isInOrder ? Math.max(time, otherTime) : otherTime;
        due("probe", () -> x.probe(node, from, to, isMost), oracle.probe(node, from, to, isMost));
    }

    /** Often the potential itself, or its neighbour, if it fits into the fraction. */
    private void compare(int node, int time) {
        int upper = isOdd() ? 501 - 1002 * random.nextInt(2) : -500 + random.nextInt(1001);
        int lower = isOdd() ? 501 * random.nextInt(2) : 1 + random.nextInt(500);
        if (random.nextBoolean() && oracle.potential(node, time, true) instanceof Long above
                && oracle.potential(node, time, false) instanceof Long below
                && Math.abs(above) < 500 && below <= 500) {
            upper = (int) (above + random.nextInt(3) - 1);
            lower = (int) (long) below;
        }
        int toldUpper = upper;
        int toldLower = lower;
        due("compare", () -> x.compare(node, time, toldUpper, toldLower),
            oracle.compare(node, time, toldUpper, toldLower));
    }
}
