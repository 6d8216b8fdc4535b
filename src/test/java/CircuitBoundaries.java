/** The sentences of the promises 1 to 3, and 8, that name a boundary: nodes, rails and what is counted. */
final class CircuitBoundaries {
    private static final String INDEX = Check.INDEX;
    private static final String ARGUMENT = Check.ARGUMENT;
    private static final String STATE = Check.STATE;
    private static final int[] ANY_POTENTIALS = {-99, 99, -100, 100, 0, Integer.MIN_VALUE, Integer.MAX_VALUE};

    private CircuitBoundaries() {
    }

    static void hold() {
        Sentences.hold("Promise 1", "Creates a bench without nodes and elements.", CircuitBoundaries::newObject);
        Sentences.hold("Promise 2", "Adds a node that is no rail.", CircuitBoundaries::noRailAtFirst);
        Sentences.hold("Promise 2", "Returns its number.", CircuitBoundaries::numbers);
        Sentences.hold("Promise 2", "Throws `IllegalStateException` if there are 8", CircuitBoundaries::ninthNode);
        Sentences.hold("Promise 3", "Makes a node a rail, or not.", CircuitBoundaries::railOrNot);
        Sentences.hold("Promise 3", "its potential (it does not matter if isRail is false)",
            CircuitBoundaries::potentialDoesNotMatter);
        Sentences.hold("Promise 3", "Returns whether it was a rail before.", CircuitBoundaries::railBefore);
        Sentences.holdNoSuchNode("Promise 3", (x, node) -> x.rail(node, true, 0));
        Sentences.holdNoSuchNode("Promise 3", (x, node) -> x.rail(node, false, 0));
        Sentences.hold("Promise 3", "Throws `IllegalArgumentException` if isRail, and potential is not -99 to 99",
            CircuitBoundaries::potentialRefused);
        Sentences.hold("Promise 8", "0 nodes, 1 elements, 2 rails, 3 toggles of all elements",
            CircuitBoundaries::counted);
        Sentences.hold("Promise 8", "Returns how many there are.", CircuitBoundaries::countedAtTheBounds);
        Sentences.hold("Promise 8", "Throws `IndexOutOfBoundsException` if what is not 0 to 3", () -> {
            NetlistBench x = Benches.crowded();
            for (int what : Benches.outside(4)) {
                Check.due(() -> x.count(what), INDEX);
                Check.due(() -> new NetlistBench().count(what), INDEX);
            }
        });
    }

    private static void dueCounts(NetlistBench x, int nodes, int elements, int rails, int toggles) {
        Check.due(() -> x.count(0), nodes);
        Check.due(() -> x.count(1), elements);
        Check.due(() -> x.count(2), rails);
        Check.due(() -> x.count(3), toggles);
    }

    private static void newObject() {
        NetlistBench full = Benches.crowded();
        NetlistBench x = new NetlistBench();
        dueCounts(x, 0, 0, 0, 0);
        Check.due(() -> x.together(0, 0), INDEX);
        Check.due(() -> x.element(0, 0), INDEX);
        Check.due(() -> x.nextToggle(0), -1);
        Check.due(() -> x.levels(0), 0);
        Check.due(() -> x.power(0), 0.0);
        x.addNode();
        dueCounts(x, 1, 0, 0, 0);
        dueCounts(full, 8, 20, 2, 120);
    }

    private static void noRailAtFirst() {
        NetlistBench x = new NetlistBench();
        for (int node = 0; node < 8; node++) {
            int told = node;
            x.addNode();
            Check.due(() -> x.count(2), told);
            Check.due(() -> x.floats(told, 0), true);
            Check.due(() -> x.feed(told, 0, true), STATE);
            Check.due(() -> x.rail(told, true, 9), false);
        }
    }

    private static void numbers() {
        NetlistBench x = new NetlistBench();
        NetlistBench y = new NetlistBench();
        for (int node = 0; node < 8; node++) {
            int told = node;
            Check.due(() -> x.addNode(), told);
            Check.due(() -> y.addNode(), told);
            Check.due(() -> x.count(0), told + 1);
        }
    }

    private static void ninthNode() {
        NetlistBench x = Benches.of(7);
        Check.due(() -> x.addNode(), 7);
        for (int i = 0; i < 10; i++) {
            Check.due(() -> x.addNode(), STATE);
            Check.due(() -> x.count(0), 8);
        }
        for (int node = 0; node < 8; node++) {
            x.rail(node, true, node);
        }
        Check.due(() -> x.addNode(), STATE);
        Check.due(() -> x.rail(8, true, 0), INDEX);
    }

    private static void railOrNot() {
        for (int node = 0; node < 8; node++) {
            int told = node;
            NetlistBench x = Benches.of(8);
            x.rail(told, true, 44);
            Check.due(() -> x.count(2), 1);
            Check.due(() -> x.floats(told, 0), false);
            Check.due(() -> x.feed(told, 999, true), 0);
            x.rail(told, true, -45);
            Check.due(() -> x.count(2), 1);
            Check.due(() -> x.potential(told, 0, true), -45);
            x.rail(told, false, 0);
            Check.due(() -> x.count(2), 0);
            Check.due(() -> x.floats(told, 0), true);
            Check.due(() -> x.feed(told, 0, true), STATE);
            x.rail(told, false, 0);
            Check.due(() -> x.count(2), 0);
        }
        NetlistBench x = Benches.divider();
        x.rail(1, true, 1);
        Check.due(() -> x.feed(1, 0, true), 2 - 27);
        x.rail(1, false, 1);
        Check.due(() -> x.potential(1, 0, true), 6);
    }

    private static void potentialDoesNotMatter() {
        for (int potential : ANY_POTENTIALS) {
            NetlistBench x = Benches.divider();
            Check.due(() -> x.rail(2, false, potential), true);
            Check.due(() -> x.rail(2, false, potential), false);
            Check.due(() -> x.count(2), 1);
            Check.dueFraction(isUpper -> x.potential(2, 0, isUpper), 0, 1);
            x.rail(0, false, potential);
            Check.due(() -> x.floats(2, 0), true);
            x.rail(2, true, 5);
            Check.dueFraction(isUpper -> x.potential(0, 0, isUpper), 5, 1);
        }
    }

    private static void railBefore() {
        NetlistBench x = Benches.of(8);
        boolean[] made = {false, true, true, false, false, true, false};
        boolean was = false;
        for (boolean isRail : made) {
            for (int node : new int[] {0, 7}) {
                Object due = was;
                Check.due(() -> x.rail(node, isRail, 0), due);
            }
            was = isRail;
        }
        Check.due(() -> x.rail(0, true, 100), ARGUMENT);
        Check.due(() -> x.rail(0, true, 99), false);
        Check.due(() -> x.rail(0, true, -100), ARGUMENT);
        Check.due(() -> x.rail(0, true, -99), true);
    }

    private static void potentialRefused() {
        NetlistBench x = Benches.of(8);
        x.rail(7, true, 1);
        for (int node : new int[] {0, 7}) {
            for (int potential : new int[] {-100, 100, 101, -128, 127, 256, Integer.MIN_VALUE, Integer.MAX_VALUE}) {
                Check.due(() -> x.rail(node, true, potential), ARGUMENT);
            }
        }
        Check.due(() -> x.potential(7, 0, true), 1);
        for (int potential : new int[] {-99, -98, 0, 98, 99}) {
            Check.due(() -> x.rail(7, true, potential), true);
            Check.due(() -> x.potential(7, 0, true), potential);
        }
    }

    private static void counted() {
        NetlistBench x = new NetlistBench();
        x.addNode();
        x.addNode();
        x.addNode();
        x.addNode();
        dueCounts(x, 4, 0, 0, 0);
        x.addElement(true, 0, 1, 0);
        x.addElement(false, 0, 1, 1);
        x.addElement(false, 0, 1, 1);
        dueCounts(x, 4, 3, 0, 0);
        x.rail(3, true, 0);
        x.rail(0, true, -99);
        dueCounts(x, 4, 3, 2, 0);
        x.toggle(0, 999);
        x.toggle(1, 999);
        x.toggle(1, 1);
        x.toggle(1, 2);
        x.toggle(2, 1);
        dueCounts(x, 4, 3, 2, 5);
        x.begin(1, false);
        x.rail(3, true, 1);
        x.rail(0, false, 1);
        x.toggle(1, 999);
        dueCounts(x, 4, 3, 1, 4);
    }

    private static void countedAtTheBounds() {
        NetlistBench x = Benches.crowded();
        dueCounts(x, 8, 20, 2, 120);
        for (int node = 0; node < 8; node++) {
            x.rail(node, true, 0);
        }
        dueCounts(x, 8, 20, 8, 120);
        Check.due(() -> x.addNode(), STATE);
        Check.due(() -> x.addElement(true, 0, 1, 0), STATE);
        Check.due(() -> x.toggle(0, 2), STATE);
        dueCounts(x, 8, 20, 8, 120);
        for (int node = 0; node < 8; node++) {
            x.rail(node, false, 0);
        }
        for (int i = 0; i < 20; i++) {
            x.toggle(i, 1);
        }
        dueCounts(x, 8, 20, 0, 100);
    }
}
