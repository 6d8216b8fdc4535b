/** The sentences of the promises 4 to 7, 9 and 10 that name a boundary: elements and their toggles. */
final class ElementBoundaries {
    private static final String INDEX = Check.INDEX;
    private static final String ARGUMENT = Check.ARGUMENT;
    private static final String STATE = Check.STATE;
    private static final String NO_ELEMENT = "Throws `IndexOutOfBoundsException` if there is no such element";
    private static final int[] NO_CONDUCTANCES = {0, -1, -9, 10, 11, 99, -99, 257, Integer.MIN_VALUE, Integer.MAX_VALUE};
    private static final int[] NO_CURRENTS = {100, -100, 101, -128, 127, 256, Integer.MIN_VALUE, Integer.MAX_VALUE};

    private ElementBoundaries() {
    }

    static void hold() {
        holdAddElement();
        holdResizeAndBegin();
        holdToggle();
        Sentences.hold("Promise 9", "0 1 if it is a source, else 0, 1 the node a, 2 the node b, 3 its size, 4 1 if it is on "
            + "at the time 0, else 0, 5 the number of its toggles", ElementBoundaries::traits);
        Sentences.holdNoSuchElement("Promise 9", NO_ELEMENT, (x, element) -> x.element(element, 5));
        Sentences.hold("Promise 9", "if there is no such element, or what is not 0 to 5", () -> {
            NetlistBench x = Benches.withElements(20);
            for (int what : Benches.outside(6)) {
                Check.due(() -> x.element(0, what), INDEX);
                Check.due(() -> x.element(19, what), INDEX);
                Check.due(() -> x.element(20, what), INDEX);
            }
        });
        Sentences.hold("Promise 10", "one of its toggles, in ascending order of their times, from 0",
            ElementBoundaries::ascendingOrder);
        Sentences.hold("Promise 10", NO_ELEMENT + " or toggle", ElementBoundaries::noSuchToggle);
    }

    private static void holdAddElement() {
        Sentences.hold("Promise 4", "Adds an element that is on from the time 0 on.", ElementBoundaries::onFromZero);
        Sentences.hold("Promise 4", "whether it is a source; otherwise a conductor", ElementBoundaries::kinds);
        Sentences.hold("Promise 4", "Returns its number.", ElementBoundaries::numbers);
        Sentences.holdNoSuchNode("Promise 4", (x, node) -> x.addElement(false, node, 0, 1));
        Sentences.holdNoSuchNode("Promise 4", (x, node) -> x.addElement(true, 0, node, 1));
        Sentences.hold("Promise 4", "Throws `IndexOutOfBoundsException` if there is no such node", () -> {
            NetlistBench x = Benches.of(1);
            Check.due(() -> x.addElement(false, 0, 1, 1), INDEX);
            Check.due(() -> x.addElement(false, 1, 0, 1), INDEX);
            Check.due(() -> x.addElement(false, 1, 1, 1), INDEX);
            Check.due(() -> new NetlistBench().addElement(false, 0, 0, 1), INDEX);
        });
        Sentences.hold("Promise 4", "Throws `IllegalArgumentException` if a and b are the same,",
            ElementBoundaries::sameNodes);
        Sentences.hold("Promise 4", "or size is not -99 to 99 (for a source), or 1 to 9 (for a conductor)",
            ElementBoundaries::sizesOfNewOnes);
        Sentences.hold("Promise 4", "Throws `IllegalStateException` if there are 20", ElementBoundaries::twentyFirst);
    }

    private static void holdResizeAndBegin() {
        Sentences.hold("Promise 5", "Sets the size of an element.", ElementBoundaries::sizeSet);
        Sentences.hold("Promise 5", "Returns the size before.", ElementBoundaries::sizeBefore);
        Sentences.holdNoSuchElement("Promise 5", NO_ELEMENT, (x, element) -> x.resize(element, 1));
        Sentences.hold("Promise 5", "Throws `IllegalArgumentException` if size is not as for addElement()",
            ElementBoundaries::sizesOfOldOnes);
        Sentences.hold("Promise 6", "Tells whether an element is on at the time 0.", ElementBoundaries::beginsOn);
        Sentences.hold("Promise 6", "Returns whether it was before.", ElementBoundaries::begunBefore);
        Sentences.holdNoSuchElement("Promise 6", NO_ELEMENT, (x, element) -> x.begin(element, false));
    }

    private static void holdToggle() {
        Sentences.hold("Promise 7", "Adds a toggle of an element, or takes it away, if there is one at this time.",
            ElementBoundaries::putAndTaken);
        Sentences.hold("Promise 7", "Returns how many toggles it has then.", ElementBoundaries::togglesThen);
        Sentences.holdNoSuchElement("Promise 7", NO_ELEMENT, (x, element) -> x.toggle(element, 1));
        Sentences.hold("Promise 7", "Throws `IllegalArgumentException` if time is not 1 to 999",
            ElementBoundaries::toggleTimes);
        Sentences.hold("Promise 7", "Throws `IllegalStateException` if it has 6, and none at this time",
            ElementBoundaries::seventhToggle);
    }

    // ---- Promise 4

    private static void onFromZero() {
        NetlistBench x = Benches.divider();
        x.begin(0, false);
        x.toggle(1, 1);
        for (boolean isSource : new boolean[] {false, true}) {
            int number = isSource ? 3 : 2;
            Check.due(() -> x.addElement(isSource, 0, 1, 9), number);
            Check.due(() -> x.isOn(number, 0), true);
            Check.due(() -> x.isOn(number, 1), true);
            Check.due(() -> x.isOn(number, 999), true);
            Check.due(() -> x.element(number, 4), 1);
            Check.due(() -> x.element(number, 5), 0);
        }
    }

    private static void kinds() {
        NetlistBench x = Benches.of(2);
        x.rail(0, true, 10);
        Check.due(() -> x.addElement(true, 0, 1, 9), 0);
        Check.due(() -> x.together(0, 0), 1);
        Check.due(() -> x.current(0, 0, true), 9);
        Check.due(() -> x.addElement(false, 0, 1, 9), 1);
        Check.due(() -> x.together(0, 0), 3);
        Check.due(() -> x.current(1, 0, true), -9);
        Check.due(() -> x.element(0, 0), 1);
        Check.due(() -> x.element(1, 0), 0);
    }

    private static void numbers() {
        NetlistBench x = Benches.of(8);
        for (int element = 0; element < 20; element++) {
            int told = element;
            Check.due(() -> x.addElement(told % 2 == 0, 7, 0, 9), told);
            Check.due(() -> x.count(1), told + 1);
        }
    }

    private static void sameNodes() {
        NetlistBench x = Benches.of(8);
        for (int node = 0; node < 8; node++) {
            int told = node;
            Check.due(() -> x.addElement(false, told, told, 1), ARGUMENT);
            Check.due(() -> x.addElement(true, told, told, 0), ARGUMENT);
        }
        Check.due(() -> x.addElement(true, 0, 1, 0), 0);
        Check.due(() -> x.addElement(true, 1, 0, 0), 1);
    }

    private static void sizesOfNewOnes() {
        NetlistBench x = Benches.of(2);
        for (int size : NO_CONDUCTANCES) {
            Check.due(() -> x.addElement(false, 0, 1, size), ARGUMENT);
        }
        for (int size : NO_CURRENTS) {
            Check.due(() -> x.addElement(true, 0, 1, size), ARGUMENT);
        }
        int[] currents = {-99, -98, -1, 0, 1, 10, 98, 99};
        for (int i = 0; i < currents.length; i++) {
            int number = i;
            Check.due(() -> x.addElement(true, 0, 1, currents[number]), number);
            Check.due(() -> x.element(number, 3), currents[number]);
        }
        for (int size = 1; size <= 9; size++) {
            int number = 7 + size;
            int told = size;
            Check.due(() -> x.addElement(false, 0, 1, told), number);
            Check.due(() -> x.element(number, 3), told);
        }
    }

    private static void twentyFirst() {
        NetlistBench x = Benches.withElements(19);
        Check.due(() -> x.addElement(false, 0, 1, 9), 19);
        for (int i = 0; i < 5; i++) {
            Check.due(() -> x.addElement(false, 0, 1, 9), STATE);
            Check.due(() -> x.addElement(true, 1, 0, -99), STATE);
        }
        Check.due(() -> x.count(1), 20);
        Check.due(() -> x.element(20, 0), INDEX);
        Check.due(() -> x.element(19, 3), 9);
    }

    // ---- Promises 5 and 6

    private static void sizeSet() {
        NetlistBench x = Benches.divider();
        x.addElement(true, 0, 1, 0);
        Check.due(() -> x.resize(0, 9), 3);
        Check.due(() -> x.resize(1, 1), 2);
        Check.due(() -> x.element(0, 3), 9);
        Check.due(() -> x.element(1, 3), 1);
        Check.due(() -> x.potential(1, 0, true), 9);
        Check.due(() -> x.resize(2, -99), 0);
        Check.dueFraction(isUpper -> x.potential(1, 999, isUpper), -9, 10);
        Check.due(() -> x.current(2, 0, true), -99);
        Check.due(() -> x.element(0, 0), 0);
        Check.due(() -> x.element(2, 0), 1);
    }

    private static void sizeBefore() {
        NetlistBench x = Benches.withElements(20);
        for (int element = 0; element < 20; element++) {
            int told = element;
            Check.due(() -> x.resize(told, 9), 1 + told % 9);
            Check.due(() -> x.resize(told, 10), told % 2 == 0 ? (Object) 9 : ARGUMENT);
            Check.due(() -> x.resize(told, 1), told % 2 == 0 ? 10 : 9);
        }
        Check.due(() -> x.resize(0, -99), 1);
        Check.due(() -> x.resize(0, 99), -99);
        Check.due(() -> x.resize(0, 0), 99);
        Check.due(() -> x.resize(0, 0), 0);
    }

    private static void sizesOfOldOnes() {
        NetlistBench x = Benches.withElements(20);
        for (int element : new int[] {0, 18}) {
            for (int size : NO_CURRENTS) {
                Check.due(() -> x.resize(element, size), ARGUMENT);
            }
            for (int size : new int[] {99, -99, 10, 0}) {
                Check.dueOther("size " + size, () -> x.resize(element, size), ARGUMENT);
                Check.due(() -> x.element(element, 3), size);
            }
        }
        for (int element : new int[] {1, 19}) {
            for (int size : NO_CONDUCTANCES) {
                Check.due(() -> x.resize(element, size), ARGUMENT);
            }
            Check.due(() -> x.element(element, 3), 2);
            for (int size = 1; size <= 9; size++) {
                int told = size;
                Check.dueOther("size " + size, () -> x.resize(element, told), ARGUMENT);
                Check.due(() -> x.element(element, 3), told);
            }
        }
    }

    private static void beginsOn() {
        NetlistBench x = Benches.divider();
        x.toggle(0, 1);
        x.begin(0, false);
        Check.due(() -> x.isOn(0, 0), false);
        Check.due(() -> x.isOn(0, 1), true);
        Check.due(() -> x.isOn(0, 999), true);
        Check.due(() -> x.element(0, 4), 0);
        Check.due(() -> x.element(0, 5), 1);
        Check.due(() -> x.toggleAt(0, 0), 1);
        Check.due(() -> x.isOn(1, 0), true);
        Check.due(() -> x.potential(1, 0, true), 0);
        Check.due(() -> x.potential(1, 1, true), 6);
        x.begin(0, true);
        Check.due(() -> x.isOn(0, 0), true);
        Check.due(() -> x.isOn(0, 1), false);
        Check.due(() -> x.element(0, 4), 1);
    }

    private static void begunBefore() {
        NetlistBench x = Benches.withElements(20);
        for (int element : new int[] {0, 19}) {
            x.toggle(element, 1);
            Check.due(() -> x.begin(element, true), true);
            Check.due(() -> x.begin(element, false), true);
            Check.due(() -> x.begin(element, false), false);
            Check.due(() -> x.begin(element, true), false);
            Check.due(() -> x.begin(element, true), true);
        }
    }

    // ---- Promise 7

    private static void dueToggles(NetlistBench x, int element, int... times) {
        Check.due(() -> x.element(element, 5), times.length);
        for (int i = 0; i < times.length; i++) {
            int index = i;
            Check.due(() -> x.toggleAt(element, index), times[index]);
        }
        Check.due(() -> x.toggleAt(element, times.length), INDEX);
    }

    private static void putAndTaken() {
        int[] times = {1, 2, 500, 501, 998, 999};
        for (int i = 0; i < 6; i++) {
            NetlistBench x = Benches.divider();
            for (int time : times) {
                x.toggle(0, time);
                x.toggle(1, time);
            }
            int taken = times[i];
            int[] left = new int[5];
            System.arraycopy(times, 0, left, 0, i);
            System.arraycopy(times, i + 1, left, i, 5 - i);
            Check.due(() -> x.toggle(0, taken), 5);
            dueToggles(x, 0, left);
            dueToggles(x, 1, times);
            boolean isOnFromThere = i % 2 == 0;
            Check.due(() -> x.isOn(0, taken), isOnFromThere);
            Check.due(() -> x.toggle(0, taken), 6);
            dueToggles(x, 0, times);
            Check.due(() -> x.isOn(0, taken), !isOnFromThere);
        }
        NetlistBench x = Benches.divider();
        Check.due(() -> x.toggle(0, 999), 1);
        Check.due(() -> x.toggle(0, 999), 0);
        dueToggles(x, 0);
        Check.due(() -> x.isOn(0, 999), true);
        Check.due(() -> x.toggle(0, 999), 1);
        dueToggles(x, 0, 999);
    }

    private static void togglesThen() {
        NetlistBench x = Benches.withElements(20);
        for (int element = 0; element < 20; element++) {
            int told = element;
            for (int i = 1; i <= 6; i++) {
                int due = i;
                Check.due(() -> x.toggle(told, 166 * due), due);
            }
        }
        for (int element : new int[] {0, 19}) {
            for (int i = 1; i <= 6; i++) {
                int taken = i;
                Check.due(() -> x.toggle(element, 166 * taken), 6 - taken);
            }
        }
        Check.due(() -> x.count(3), 18 * 6);
    }

    private static void toggleTimes() {
        NetlistBench x = Benches.withElements(2);
        for (int element = 0; element < 2; element++) {
            int told = element;
            for (int time : Benches.NO_TIMES) {
                Check.due(() -> x.toggle(told, time), ARGUMENT);
            }
            Check.due(() -> x.toggle(told, 0), ARGUMENT);
            Check.due(() -> x.toggle(told, 1), 1);
            Check.due(() -> x.toggle(told, 999), 2);
            Check.due(() -> x.toggle(told, 0), ARGUMENT);
            dueToggles(x, told, 1, 999);
        }
    }

    private static void seventhToggle() {
        for (int element : new int[] {0, 19}) {
            NetlistBench x = Benches.withElements(20);
            for (int time : new int[] {2, 100, 200, 300, 400, 998}) {
                x.toggle(element, time);
            }
            for (int time : new int[] {1, 3, 99, 101, 250, 997, 999}) {
                Check.due(() -> x.toggle(element, time), STATE);
            }
            dueToggles(x, element, 2, 100, 200, 300, 400, 998);
            Check.due(() -> x.toggle(element, 998), 5);
            Check.due(() -> x.toggle(element, 999), 6);
            Check.due(() -> x.toggle(element, 998), STATE);
            Check.due(() -> x.toggle(element, 2), 5);
            Check.due(() -> x.toggle(element, 1), 6);
            Check.due(() -> x.toggle(element, 2), STATE);
            dueToggles(x, element, 1, 100, 200, 300, 400, 999);
            // The others have room of their own.
            Check.due(() -> x.toggle(1, 2), 1);
        }
    }

    // ---- Promises 9 and 10

    private static void traits() {
        NetlistBench x = Benches.of(8);
        x.addElement(true, 7, 0, -99);
        x.addElement(false, 0, 7, 9);
        x.addElement(true, 3, 4, 0);
        x.addElement(false, 4, 3, 1);
        x.begin(0, false);
        x.begin(3, false);
        for (int time : new int[] {999, 5, 1, 70, 80, 2}) {
            x.toggle(0, time);
        }
        x.toggle(1, 4);
        int[][] due = {{1, 7, 0, -99, 0, 6}, {0, 0, 7, 9, 1, 1}, {1, 3, 4, 0, 1, 0}, {0, 4, 3, 1, 0, 0}};
        for (int i = 0; i < 4; i++) {
            for (int j = 0; j < 6; j++) {
                int element = i;
                int what = j;
                Check.due(() -> x.element(element, what), due[element][what]);
            }
        }
    }

    /** The same six times put in each of 720 orders. */
    private static void ascendingOrder() {
        int[] times = {1, 2, 300, 301, 998, 999};
        for (int order = 0; order < 720; order++) {
            NetlistBench x = Benches.withElements(1);
            int[] left = times.clone();
            int rest = order;
            for (int count = 6; count > 0; count--) {
                int place = rest % count;
                rest /= count;
                x.toggle(0, left[place]);
                left[place] = left[count - 1];
            }
            for (int i = 0; i < 6; i++) {
                int index = i;
                Check.due(() -> x.toggleAt(0, index), times[index]);
            }
        }
    }

    private static void noSuchToggle() {
        for (int toggles = 0; toggles <= 6; toggles++) {
            NetlistBench x = Benches.withElements(2);
            for (int i = 0; i < toggles; i++) {
                x.toggle(0, 100 + i);
            }
            for (int i = 0; i < toggles; i++) {
                int index = i;
                Check.due(() -> x.toggleAt(0, index), 100 + index);
            }
            for (int index : Benches.outside(toggles)) {
                Check.due(() -> x.toggleAt(0, index), INDEX);
            }
            Check.due(() -> x.toggleAt(1, 0), INDEX);
            for (int element : Benches.outside(2)) {
                Check.due(() -> x.toggleAt(element, 0), INDEX);
            }
        }
        NetlistBench full = Benches.crowded();
        Check.due(() -> full.toggleAt(19, 5), 999);
        Check.due(() -> full.toggleAt(19, 6), INDEX);
        Check.due(() -> full.toggleAt(20, 0), INDEX);
        full.toggle(19, 419);
        Check.due(() -> full.toggleAt(19, 4), 999);
        Check.due(() -> full.toggleAt(19, 5), INDEX);
    }
}
