/** The sentences of the promises 11 to 13 that name a boundary: what is on, what hangs together, what floats. */
final class TimeBoundaries {
    private static final String NO_ELEMENT = "Throws `IndexOutOfBoundsException` if there is no such element";

    private TimeBoundaries() {
    }

    static void hold() {
        Sentences.hold("Promise 11", "Returns whether it is on.", TimeBoundaries::onOrOff);
        Sentences.holdNoSuchElement("Promise 11", NO_ELEMENT, (x, element) -> x.isOn(element, 0));
        Sentences.holdNoSuchTime("Promise 11", (x, time) -> x.isOn(0, time));
        Sentences.holdNoSuchTime("Promise 11", (x, time) -> x.isOn(1, time));
        Sentences.hold("Promise 12", "Returns the set of the nodes that hang together with it",
            TimeBoundaries::setsAtATime);
        Sentences.hold("Promise 12", "(as the sum of the powers 2^k of their numbers k)", TimeBoundaries::sumsOfPowers);
        Sentences.holdNoSuchNode("Promise 12", (x, node) -> x.together(node, 0));
        Sentences.holdNoSuchTime("Promise 12", (x, time) -> x.together(0, time));
        Sentences.hold("Promise 13", "Returns whether it floats.", TimeBoundaries::floating);
        Sentences.holdNoSuchNode("Promise 13", (x, node) -> x.floats(node, 0));
        Sentences.holdNoSuchTime("Promise 13", (x, time) -> x.floats(0, time));
    }

    private static void onOrOff() {
        for (int element : new int[] {0, 19}) {
            NetlistBench x = Benches.withElements(20);
            Check.due(() -> x.isOn(element, 0), true);
            Check.due(() -> x.isOn(element, 999), true);
            for (int time : new int[] {999, 1, 2, 500, 501, 998}) {
                x.toggle(element, time);
            }
            int[] looked = {0, 1, 2, 3, 499, 500, 501, 502, 997, 998, 999};
            boolean[] due = {true, false, true, true, true, false, true, true, true, false, true};
            for (int i = 0; i < looked.length; i++) {
                int time = looked[i];
                Check.due(() -> x.isOn(element, time), due[i]);
            }
            x.begin(element, false);
            for (int i = 0; i < looked.length; i++) {
                int time = looked[i];
                Check.due(() -> x.isOn(element, time), !due[i]);
            }
            x.toggle(element, 999);
            Check.due(() -> x.isOn(element, 999), true);
            Check.due(() -> x.isOn(1, 999), true);
        }
    }

    private static void setsAtATime() {
        NetlistBench x = Benches.of(8);
        x.addElement(false, 0, 7, 1);
        x.addElement(true, 0, 1, 9);
        x.addElement(false, 7, 3, 9);
        x.addElement(false, 3, 0, 9);
        x.begin(0, false);
        x.toggle(0, 1);
        x.toggle(2, 999);
        x.toggle(3, 1);
        Check.due(() -> x.together(0, 0), 1 + 128 + 8);
        Check.due(() -> x.together(0, 1), 1 + 128 + 8);
        Check.due(() -> x.together(0, 998), 1 + 128 + 8);
        Check.due(() -> x.together(0, 999), 1 + 128);
        Check.due(() -> x.together(3, 999), 8);
        Check.due(() -> x.together(1, 0), 2);
        // Two ways between the nodes: as long as one of them is left, they hang together.
        NetlistBench y = Benches.row(4, 1);
        y.addElement(false, 3, 0, 1);
        y.toggle(1, 10);
        Check.due(() -> y.together(1, 10), 15);
        y.toggle(3, 11);
        Check.due(() -> y.together(1, 11), 3);
        Check.due(() -> y.together(2, 11), 12);
    }

    private static void sumsOfPowers() {
        NetlistBench x = Benches.row(8, 9);
        for (int node = 0; node < 8; node++) {
            int told = node;
            Check.due(() -> x.together(told, 0), 255);
            NetlistBench alone = Benches.of(8);
            Check.due(() -> alone.together(told, 0), 1 << told);
        }
        // Pairs that are joined last of all elements: first 0 and 1, 2 and 3, and so on, then their neighbours.
        NetlistBench y = Benches.of(8);
        for (int node = 0; node < 8; node += 2) {
            y.addElement(false, node, node + 1, 1);
        }
        Check.due(() -> y.together(6, 0), 64 + 128);
        y.addElement(false, 1, 6, 1);
        y.addElement(false, 4, 3, 1);
        Check.due(() -> y.together(7, 0), 1 + 2 + 64 + 128);
        Check.due(() -> y.together(2, 0), 4 + 8 + 16 + 32);
        y.addElement(false, 2, 7, 1);
        for (int node = 0; node < 8; node++) {
            int told = node;
            Check.due(() -> y.together(told, 0), 255);
        }
    }

    private static void floating() {
        NetlistBench x = Benches.row(8, 1);
        x.rail(7, true, 0);
        x.toggle(0, 1);
        x.toggle(6, 999);
        Check.due(() -> x.floats(0, 0), false);
        Check.due(() -> x.floats(0, 1), true);
        Check.due(() -> x.floats(1, 998), false);
        Check.due(() -> x.floats(6, 998), false);
        Check.due(() -> x.floats(6, 999), true);
        Check.due(() -> x.floats(7, 999), false);
        x.addElement(true, 0, 7, 99);
        Check.due(() -> x.floats(0, 1), true);
        x.rail(7, false, 0);
        for (int node = 0; node < 8; node++) {
            int told = node;
            Check.due(() -> x.floats(told, 0), true);
        }
        x.rail(0, true, 0);
        Check.due(() -> x.floats(7, 0), false);
        Check.due(() -> x.floats(7, 1), true);
        Check.due(() -> x.floats(0, 1), false);
    }
}
