/** The sentences about exceptions that hold for all methods: what is refused changes nothing, and the first is thrown. */
final class RefusalBoundaries {
    private static final String INDEX = Check.INDEX;
    private static final String ARGUMENT = Check.ARGUMENT;
    private static final String STATE = Check.STATE;

    private interface Ask {
        Object answer(NetlistBench x);
    }

    private RefusalBoundaries() {
    }

    static void hold() {
        Sentences.hold("Terms", "A method that throws an exception changes nothing.", () -> {
            changersChangeNothing();
            askersChangeNothing();
            emptyBenchesStayEmpty();
        });
        Sentences.hold("Terms", "If several exceptions apply, the one that is named first is thrown.", () -> {
            firstOfChangers();
            firstOfAskers();
        });
    }

    // ---- A method that throws an exception changes nothing.

    private static void unchanged(Ask refused, String want) {
        NetlistBench x = Benches.crowded();
        Check.due(() -> refused.answer(x), want);
        Check.due(() -> Benches.told(x), Benches.told(Benches.crowded()));
    }

    private static void changersChangeNothing() {
        unchanged(x -> x.addNode(), STATE);
        unchanged(x -> x.rail(8, true, 1), INDEX);
        unchanged(x -> x.rail(-1, false, 1), INDEX);
        for (int potential : new int[] {100, -100, Integer.MAX_VALUE}) {
            unchanged(x -> x.rail(0, true, potential), ARGUMENT);
            unchanged(x -> x.rail(1, true, potential), ARGUMENT);
        }
        unchanged(x -> x.addElement(false, 0, 8, 1), INDEX);
        unchanged(x -> x.addElement(false, -1, 0, 1), INDEX);
        unchanged(x -> x.addElement(false, 3, 3, 1), ARGUMENT);
        unchanged(x -> x.addElement(false, 3, 4, 10), ARGUMENT);
        unchanged(x -> x.addElement(true, 3, 4, 100), ARGUMENT);
        unchanged(x -> x.addElement(false, 3, 4, 1), STATE);
        unchanged(x -> x.resize(20, 1), INDEX);
        unchanged(x -> x.resize(0, 0), ARGUMENT);
        unchanged(x -> x.resize(0, 10), ARGUMENT);
        unchanged(x -> x.resize(19, -100), ARGUMENT);
        unchanged(x -> x.resize(19, 100), ARGUMENT);
        unchanged(x -> x.begin(20, false), INDEX);
        unchanged(x -> x.begin(-1, false), INDEX);
        unchanged(x -> x.toggle(20, 5), INDEX);
        for (int time : new int[] {0, 1000, -1}) {
            unchanged(x -> x.toggle(0, time), ARGUMENT);
        }
        for (int time : new int[] {2, 99, 350, 998}) {
            unchanged(x -> x.toggle(0, time), STATE);
            unchanged(x -> x.toggle(19, time), STATE);
        }
    }

    private static void askersChangeNothing() {
        unchanged(x -> x.count(4), INDEX);
        unchanged(x -> x.element(20, 0), INDEX);
        unchanged(x -> x.element(0, 6), INDEX);
        unchanged(x -> x.toggleAt(0, 6), INDEX);
        unchanged(x -> x.isOn(0, 1000), ARGUMENT);
        unchanged(x -> x.together(8, 0), INDEX);
        unchanged(x -> x.floats(0, -1), ARGUMENT);
        unchanged(x -> x.potential(8, 0, true), INDEX);
        // From 1 to 99 all elements are off.
        unchanged(x -> x.potential(1, 1, true), STATE);
        unchanged(x -> x.current(20, 1, true), INDEX);
        unchanged(x -> x.feed(1, 0, true), STATE);
        unchanged(x -> x.resistance(0, 1, 1, true), STATE);
        unchanged(x -> x.power(1000), ARGUMENT);
        unchanged(x -> x.nextToggle(-1), ARGUMENT);
        unchanged(x -> x.probe(0, 3, 2, true), ARGUMENT);
        unchanged(x -> x.compare(0, 0, 0, 0), ARGUMENT);
        unchanged(x -> x.compare(1, 1, 0, 1), STATE);
        unchanged(x -> x.levels(1000), ARGUMENT);
    }

    /** What could have been put in, had it not been refused, has not been put in: the next numbers are still free. */
    private static void emptyBenchesStayEmpty() {
        NetlistBench x = new NetlistBench();
        Check.due(() -> x.rail(0, true, 5), INDEX);
        Check.due(() -> x.addElement(false, 0, 1, 5), INDEX);
        Check.due(() -> x.digest(), new NetlistBench().digest());
        Check.due(() -> x.addNode(), 0);
        Check.due(() -> x.floats(0, 0), true);
        Check.due(() -> x.addElement(false, 0, 1, 5), INDEX);
        Check.due(() -> x.addNode(), 1);
        Check.due(() -> x.addElement(false, 0, 0, 5), ARGUMENT);
        Check.due(() -> x.addElement(false, 0, 1, 10), ARGUMENT);
        Check.due(() -> x.addElement(true, 0, 1, -100), ARGUMENT);
        Check.due(() -> x.rail(0, true, 100), ARGUMENT);
        Check.due(() -> x.count(1), 0);
        Check.due(() -> x.count(2), 0);
        Check.due(() -> x.addElement(true, 0, 1, 5), 0);
        Check.due(() -> x.toggle(0, 1000), ARGUMENT);
        Check.due(() -> x.toggle(0, 0), ARGUMENT);
        Check.due(() -> x.count(3), 0);
        Check.due(() -> x.toggle(0, 999), 1);
    }

    // ---- If several exceptions apply, the one that is named first is thrown.

    private static void first(Ask refused, String want) {
        NetlistBench x = Benches.crowded();
        Check.due(() -> refused.answer(x), want);
    }

    private static void firstOfChangers() {
        first(x -> x.rail(8, true, 100), INDEX);
        first(x -> x.rail(-1, true, -100), INDEX);
        // 20 elements are there, so that each of these would be refused as one too many as well.
        first(x -> x.addElement(false, 8, 8, 1), INDEX);
        first(x -> x.addElement(false, -1, 0, 0), INDEX);
        first(x -> x.addElement(true, 0, 8, 100), INDEX);
        first(x -> x.addElement(true, 0, 8, 1), INDEX);
        first(x -> x.addElement(false, 2, 2, 1), ARGUMENT);
        first(x -> x.addElement(false, 2, 3, 0), ARGUMENT);
        first(x -> x.addElement(true, 2, 3, -100), ARGUMENT);
        first(x -> x.addElement(true, 2, 3, 1), STATE);
        first(x -> x.resize(20, 100), INDEX);
        first(x -> x.resize(-1, 0), INDEX);
        first(x -> x.toggle(20, 0), INDEX);
        first(x -> x.toggle(-1, 1000), INDEX);
        first(x -> x.toggle(0, 0), ARGUMENT);
        first(x -> x.toggle(0, 1000), ARGUMENT);
        first(x -> x.toggle(0, 500), STATE);
        NetlistBench fewer = Benches.of(2);
        Check.due(() -> fewer.addElement(false, 2, 2, 0), INDEX);
        Check.due(() -> fewer.addElement(true, 0, 2, 100), INDEX);
    }

    private static void firstOfAskers() {
        for (int time : Benches.NO_TIMES) {
            first(x -> x.isOn(20, time), INDEX);
            first(x -> x.together(8, time), INDEX);
            first(x -> x.floats(8, time), INDEX);
            first(x -> x.potential(8, time, true), INDEX);
            first(x -> x.current(20, time, true), INDEX);
            first(x -> x.feed(8, time, true), INDEX);
            first(x -> x.feed(1, time, true), ARGUMENT);
            first(x -> x.resistance(8, 0, time, true), INDEX);
            first(x -> x.resistance(0, 8, time, false), INDEX);
            first(x -> x.probe(8, time, time, true), INDEX);
            first(x -> x.compare(8, time, 501, 0), INDEX);
            NetlistBench loose = Benches.of(2);
            loose.addElement(false, 0, 1, 1);
            loose.addNode();
            Check.due(() -> loose.potential(0, time, true), ARGUMENT);
            Check.due(() -> loose.current(0, time, true), ARGUMENT);
            Check.due(() -> loose.resistance(0, 2, time, true), ARGUMENT);
            Check.due(() -> loose.compare(0, time, 0, 1), ARGUMENT);
        }
        first(x -> x.probe(8, 3, 2, true), INDEX);
        first(x -> x.compare(8, 0, 0, 0), INDEX);
        // Node 1 floats at the time 1.
        first(x -> x.compare(1, 1, 501, 1), ARGUMENT);
        first(x -> x.compare(1, 1, -501, 1), ARGUMENT);
        first(x -> x.compare(1, 1, 1, 0), ARGUMENT);
        first(x -> x.compare(1, 1, 1, 501), ARGUMENT);
        first(x -> x.compare(1, 1, 1, 1), STATE);
    }
}
