/** Each promise of the document by circuits whose answers were worked out by hand. */
public final class PromiseTest {
    private static final String INDEX = Check.INDEX;
    private static final String ARGUMENT = Check.ARGUMENT;
    private static final String STATE = Check.STATE;
    private static final int[] BAD_TIMES = {-1, 1000, Integer.MIN_VALUE, Integer.MAX_VALUE};
    private static final int[] BAD_NUMBERS = {-1, 8, 20, Integer.MIN_VALUE, Integer.MAX_VALUE};

    public static void main(String[] args) {
        newObject();
        addNode();
        rail();
        addElementTells();
        addElementRefuses();
        resize();
        begin();
        toggle();
        toggleRefuses();
        count();
        element();
        toggleAt();
        isOn();
        together();
        floats();
        potential();
        potentialsOfARow();
        sources();
        current();
        feed();
        resistance();
        power();
        nextToggle();
        probe();
        probeOfALadder();
        probeTellsWhatDoublesCannot();
        compare();
        levels();
        digest();
        throwingChangesNothing();
        Check.end();
    }

    private static void due(Check.Call call, Object want) {
        Check.due(call, want);
    }

    private static NetlistBench bench(int nodes) {
        return Benches.of(nodes);
    }

    private static NetlistBench divider() {
        return Benches.divider();
    }

    private static void newObject() {
        NetlistBench x = new NetlistBench();
        for (int what = 0; what < 4; what++) {
            int counted = what;
            due(() -> x.count(counted), 0);
        }
        due(() -> x.floats(0, 0), INDEX);
        due(() -> x.element(0, 0), INDEX);
        due(() -> x.levels(0), 0);
        due(() -> x.power(0), 0.0);
        due(() -> x.nextToggle(0), -1);
        due(() -> x.digest(), 409L * 31 * 31 * 31 * 31);
        x.addNode();
        due(() -> new NetlistBench().count(0), 0);
    }

    private static void addNode() {
        NetlistBench x = new NetlistBench();
        for (int node = 0; node < 8; node++) {
            due(() -> x.addNode(), node);
        }
        due(() -> x.addNode(), STATE);
        due(() -> x.count(0), 8);
        due(() -> x.count(2), 0);
        due(() -> x.floats(7, 0), true);
        due(() -> x.together(7, 0), 128);
        due(() -> x.feed(7, 0, true), STATE);
    }

    private static void rail() {
        NetlistBench x = bench(2);
        due(() -> x.rail(0, true, -99), false);
        due(() -> x.potential(0, 0, true), -99);
        due(() -> x.rail(0, true, 99), true);
        due(() -> x.potential(0, 999, true), 99);
        due(() -> x.potential(0, 999, false), 1);
        due(() -> x.rail(0, true, 100), ARGUMENT);
        due(() -> x.rail(0, true, -100), ARGUMENT);
        due(() -> x.rail(0, true, Integer.MIN_VALUE), ARGUMENT);
        due(() -> x.potential(0, 0, true), 99);
        due(() -> x.rail(2, true, 100), INDEX);
        due(() -> x.rail(-1, false, 0), INDEX);
        due(() -> x.rail(0, false, 100), true);
        due(() -> x.potential(0, 0, true), STATE);
        due(() -> x.rail(0, false, Integer.MAX_VALUE), false);
        due(() -> x.rail(0, true, 0), false);
        due(() -> x.potential(0, 0, true), 0);
        due(() -> x.floats(1, 0), true);
    }

    private static void addElementTells() {
        NetlistBench x = bench(3);
        due(() -> x.addElement(false, 2, 0, 1), 0);
        due(() -> x.addElement(false, 0, 2, 9), 1);
        due(() -> x.addElement(true, 1, 2, -99), 2);
        due(() -> x.addElement(true, 1, 2, 99), 3);
        due(() -> x.addElement(true, 1, 2, 0), 4);
        due(() -> x.element(0, 0), 0);
        due(() -> x.element(0, 1), 2);
        due(() -> x.element(0, 2), 0);
        due(() -> x.element(0, 3), 1);
        due(() -> x.element(0, 4), 1);
        due(() -> x.element(0, 5), 0);
        due(() -> x.element(2, 0), 1);
        due(() -> x.element(2, 3), -99);
        due(() -> x.isOn(2, 0), true);
        due(() -> x.isOn(2, 999), true);
        for (int i = 5; i < 20; i++) {
            int number = i;
            due(() -> x.addElement(number % 2 == 0, 0, 1, 1), number);
        }
        due(() -> x.addElement(false, 0, 1, 1), STATE);
        due(() -> x.addElement(true, 0, 1, 1), STATE);
        due(() -> x.addElement(true, 0, 0, 1), ARGUMENT);
        due(() -> x.addElement(false, 0, 1, 0), ARGUMENT);
        due(() -> x.addElement(false, 0, 3, 0), INDEX);
        due(() -> x.count(1), 20);
    }

    private static void addElementRefuses() {
        NetlistBench x = bench(2);
        for (int node : new int[] {-1, 2, 7, 8, Integer.MIN_VALUE, Integer.MAX_VALUE}) {
            due(() -> x.addElement(false, node, 0, 1), INDEX);
            due(() -> x.addElement(false, 0, node, 1), INDEX);
            due(() -> x.addElement(true, node, node, 100), INDEX);
        }
        due(() -> x.addElement(false, 1, 1, 1), ARGUMENT);
        for (int size : new int[] {0, 10, -1, -9, Integer.MIN_VALUE, Integer.MAX_VALUE}) {
            due(() -> x.addElement(false, 0, 1, size), ARGUMENT);
        }
        for (int size : new int[] {100, -100, Integer.MIN_VALUE, Integer.MAX_VALUE}) {
            due(() -> x.addElement(true, 0, 1, size), ARGUMENT);
        }
        due(() -> x.count(1), 0);
    }

    private static void resize() {
        NetlistBench x = divider();
        x.addElement(true, 0, 1, 4);
        due(() -> x.resize(0, 8), 3);
        due(() -> x.element(0, 3), 8);
        due(() -> x.potential(1, 0, true), 42);
        due(() -> x.potential(1, 0, false), 5);
        due(() -> x.resize(0, 9), 8);
        due(() -> x.resize(0, 1), 9);
        due(() -> x.resize(0, 0), ARGUMENT);
        due(() -> x.resize(0, 10), ARGUMENT);
        due(() -> x.resize(0, -1), ARGUMENT);
        due(() -> x.resize(2, 0), 4);
        due(() -> x.resize(2, -99), 0);
        due(() -> x.resize(2, 99), -99);
        due(() -> x.resize(2, 100), ARGUMENT);
        due(() -> x.resize(2, -100), ARGUMENT);
        due(() -> x.element(2, 3), 99);
        due(() -> x.resize(3, 1000), INDEX);
        due(() -> x.resize(-1, 1), INDEX);
        due(() -> x.resize(Integer.MAX_VALUE, 1), INDEX);
    }

    private static void begin() {
        NetlistBench x = divider();
        due(() -> x.begin(0, true), true);
        due(() -> x.begin(0, false), true);
        due(() -> x.begin(0, false), false);
        due(() -> x.element(0, 4), 0);
        due(() -> x.element(1, 4), 1);
        due(() -> x.isOn(0, 0), false);
        due(() -> x.potential(1, 0, true), 0);
        due(() -> x.begin(0, true), false);
        due(() -> x.isOn(0, 0), true);
        for (int number : BAD_NUMBERS) {
            due(() -> x.begin(number, true), INDEX);
        }
        due(() -> x.begin(2, true), INDEX);
    }

    private static void toggle() {
        NetlistBench x = divider();
        due(() -> x.toggle(0, 500), 1);
        due(() -> x.toggle(0, 1), 2);
        due(() -> x.toggle(0, 999), 3);
        due(() -> x.toggle(0, 250), 4);
        due(() -> x.toggle(1, 250), 1);
        dueToggles(x, 0, 1, 250, 500, 999);
        due(() -> x.toggle(0, 250), 3);
        dueToggles(x, 0, 1, 500, 999);
        due(() -> x.toggle(0, 1), 2);
        due(() -> x.toggle(0, 999), 1);
        due(() -> x.toggle(0, 500), 0);
        dueToggles(x, 0);
        dueToggles(x, 1, 250);
    }

    private static void toggleRefuses() {
        NetlistBench x = divider();
        for (int time : new int[] {6, 5, 4, 3, 2, 1}) {
            due(() -> x.toggle(0, time), 7 - time);
        }
        due(() -> x.toggle(0, 7), STATE);
        due(() -> x.toggle(0, 999), STATE);
        due(() -> x.toggle(0, 0), ARGUMENT);
        due(() -> x.toggle(0, 1000), ARGUMENT);
        dueToggles(x, 0, 1, 2, 3, 4, 5, 6);
        due(() -> x.toggle(0, 3), 5);
        due(() -> x.toggle(0, 7), 6);
        dueToggles(x, 0, 1, 2, 4, 5, 6, 7);
        due(() -> x.toggle(2, 0), INDEX);
        due(() -> x.toggle(-1, 1000), INDEX);
        due(() -> x.toggle(1, 0), ARGUMENT);
        due(() -> x.toggle(1, -1), ARGUMENT);
        due(() -> x.toggle(1, 1000), ARGUMENT);
        due(() -> x.toggle(1, Integer.MAX_VALUE), ARGUMENT);
        due(() -> x.toggle(1, Integer.MIN_VALUE), ARGUMENT);
    }

    private static void dueToggles(NetlistBench x, int element, int... times) {
        due(() -> x.element(element, 5), times.length);
        for (int i = 0; i < times.length; i++) {
            int index = i;
            due(() -> x.toggleAt(element, index), times[index]);
        }
        due(() -> x.toggleAt(element, times.length), INDEX);
    }

    private static void count() {
        NetlistBench x = divider();
        x.toggle(0, 5);
        x.toggle(1, 5);
        x.toggle(1, 6);
        x.toggle(1, 9);
        due(() -> x.count(0), 3);
        due(() -> x.count(1), 2);
        due(() -> x.count(2), 2);
        due(() -> x.count(3), 4);
        x.rail(2, true, 11);
        due(() -> x.count(2), 2);
        x.rail(2, false, 0);
        x.toggle(1, 6);
        due(() -> x.count(2), 1);
        due(() -> x.count(3), 3);
        for (int what : new int[] {-1, 4, Integer.MIN_VALUE, Integer.MAX_VALUE}) {
            due(() -> x.count(what), INDEX);
        }
    }

    private static void element() {
        NetlistBench x = bench(8);
        x.addElement(true, 7, 3, -42);
        x.addElement(false, 3, 7, 6);
        x.toggle(0, 8);
        x.toggle(0, 9);
        x.begin(0, false);
        int[] first = {1, 7, 3, -42, 0, 2};
        int[] second = {0, 3, 7, 6, 1, 0};
        for (int i = 0; i < 6; i++) {
            int what = i;
            due(() -> x.element(0, what), first[what]);
            due(() -> x.element(1, what), second[what]);
        }
        for (int number : BAD_NUMBERS) {
            due(() -> x.element(number, 0), INDEX);
        }
        due(() -> x.element(2, 0), INDEX);
        due(() -> x.element(0, -1), INDEX);
        due(() -> x.element(0, 6), INDEX);
        due(() -> x.element(0, Integer.MAX_VALUE), INDEX);
    }

    private static void toggleAt() {
        NetlistBench x = divider();
        due(() -> x.toggleAt(0, 0), INDEX);
        x.toggle(0, 30);
        x.toggle(0, 10);
        x.toggle(0, 20);
        dueToggles(x, 0, 10, 20, 30);
        due(() -> x.toggleAt(0, -1), INDEX);
        due(() -> x.toggleAt(0, 6), INDEX);
        due(() -> x.toggleAt(0, Integer.MAX_VALUE), INDEX);
        due(() -> x.toggleAt(1, 0), INDEX);
        for (int number : BAD_NUMBERS) {
            due(() -> x.toggleAt(number, 0), INDEX);
        }
        x.toggle(0, 10);
        due(() -> x.toggleAt(0, 2), INDEX);
    }

    private static void isOn() {
        NetlistBench x = divider();
        x.toggle(0, 1);
        x.toggle(0, 999);
        x.toggle(0, 500);
        due(() -> x.isOn(0, 0), true);
        due(() -> x.isOn(0, 1), false);
        due(() -> x.isOn(0, 499), false);
        due(() -> x.isOn(0, 500), true);
        due(() -> x.isOn(0, 998), true);
        due(() -> x.isOn(0, 999), false);
        x.begin(0, false);
        due(() -> x.isOn(0, 0), false);
        due(() -> x.isOn(0, 1), true);
        due(() -> x.isOn(0, 999), true);
        for (int time : BAD_TIMES) {
            due(() -> x.isOn(0, time), ARGUMENT);
            due(() -> x.isOn(2, time), INDEX);
        }
        for (int number : BAD_NUMBERS) {
            due(() -> x.isOn(number, 0), INDEX);
        }
    }

    private static void together() {
        NetlistBench x = bench(8);
        x.addElement(false, 7, 1, 1);
        x.addElement(false, 3, 5, 1);
        x.addElement(false, 5, 1, 1);
        x.addElement(true, 0, 1, 9);
        x.toggle(2, 10);
        due(() -> x.together(7, 9), 128 + 2 + 8 + 32);
        due(() -> x.together(3, 0), 128 + 2 + 8 + 32);
        due(() -> x.together(1, 10), 128 + 2);
        due(() -> x.together(3, 10), 8 + 32);
        due(() -> x.together(0, 10), 1);
        due(() -> x.together(6, 10), 64);
        x.rail(1, true, 5);
        x.rail(3, true, 5);
        due(() -> x.together(7, 10), 128 + 2);
        for (int time : BAD_TIMES) {
            due(() -> x.together(0, time), ARGUMENT);
            due(() -> x.together(8, time), INDEX);
        }
        due(() -> x.together(-1, 0), INDEX);
        due(() -> bench(3).together(3, 0), INDEX);
    }

    private static void floats() {
        NetlistBench x = bench(5);
        x.addElement(false, 0, 1, 1);
        x.addElement(false, 1, 2, 1);
        x.addElement(true, 2, 3, 1);
        due(() -> x.floats(0, 0), true);
        x.rail(0, true, 0);
        x.toggle(1, 100);
        due(() -> x.floats(0, 0), false);
        due(() -> x.floats(2, 99), false);
        due(() -> x.floats(2, 100), true);
        due(() -> x.floats(1, 100), false);
        due(() -> x.floats(3, 0), true);
        due(() -> x.floats(4, 0), true);
        for (int time : BAD_TIMES) {
            due(() -> x.floats(0, time), ARGUMENT);
            due(() -> x.floats(5, time), INDEX);
        }
        due(() -> x.floats(-1, 0), INDEX);
    }

    private static void potential() {
        NetlistBench x = divider();
        due(() -> x.potential(1, 0, true), 6);
        due(() -> x.potential(1, 0, false), 1);
        due(() -> x.potential(0, 0, true), 0);
        due(() -> x.potential(0, 0, false), 1);
        due(() -> x.potential(2, 0, true), 10);
        due(() -> x.potential(2, 0, false), 1);
        x.addElement(true, 1, 0, 33);
        due(() -> x.potential(1, 0, true), -3);
        due(() -> x.potential(1, 0, false), 5);
        x.toggle(0, 50);
        due(() -> x.potential(1, 50, true), -33);
        due(() -> x.potential(1, 50, false), 2);
        x.toggle(1, 60);
        due(() -> x.potential(1, 60, true), STATE);
        due(() -> x.potential(1, 59, false), 2);
        due(() -> x.potential(0, 60, true), 0);
        for (int time : BAD_TIMES) {
            due(() -> x.potential(1, time, true), ARGUMENT);
            due(() -> x.potential(3, time, true), INDEX);
        }
        due(() -> x.potential(-1, 60, false), INDEX);
        x.rail(0, false, 0);
        x.rail(2, false, 0);
        due(() -> x.potential(1, 0, true), STATE);
    }

    /** Seven conductors in a row, a source through all of them: the rail's 99, and 99 / c for each on the way. */
    private static void potentialsOfARow() {
        NetlistBench x = bench(8);
        x.rail(0, true, 99);
        for (int i = 0; i < 7; i++) {
            x.addElement(false, i + 1, i, new int[] {9, 8, 7, 5, 9, 7, 8}[i]);
        }
        x.addElement(true, 0, 7, 99);
        // 1/9 + 1/8 + 1/7 + 1/5 + 1/9 + 1/7 + 1/8 = 2414/2520; 99 * 4934/2520 = 27137/140
        due(() -> x.potential(7, 0, true), 27137);
        due(() -> x.potential(7, 0, false), 140);
        // 1/9 + 1/8 + 1/7 = 191/504; 99 * 695/504 = 7645/56
        due(() -> x.potential(3, 0, true), 7645);
        due(() -> x.potential(3, 0, false), 56);
    }

    private static void sources() {
        NetlistBench x = divider();
        x.addNode();
        x.addElement(true, 3, 1, 5);
        due(() -> x.floats(3, 0), true);
        due(() -> x.potential(1, 0, true), 7);
        due(() -> x.feed(0, 0, true), -14);
        due(() -> x.feed(2, 0, true), 9);
        x.resize(2, -5);
        due(() -> x.potential(1, 0, true), 5);
        NetlistBench y = bench(2);
        y.addElement(true, 1, 0, 6);
        y.addElement(false, 0, 1, 4);
        y.rail(1, true, 1);
        due(() -> y.potential(0, 0, true), 5);
        due(() -> y.potential(0, 0, false), 2);
    }

    private static void current() {
        NetlistBench x = divider();
        x.addNode();
        x.addNode();
        x.addElement(true, 1, 0, -4);
        x.addElement(true, 3, 4, 7);
        x.addElement(false, 4, 3, 2);
        due(() -> x.current(0, 0, true), 48);
        due(() -> x.current(0, 0, false), 5);
        due(() -> x.current(1, 0, true), 68);
        due(() -> x.current(1, 0, false), 5);
        due(() -> x.current(2, 0, true), -4);
        due(() -> x.current(2, 0, false), 1);
        due(() -> x.current(3, 0, true), 7);
        due(() -> x.current(3, 0, false), 1);
        due(() -> x.current(4, 0, true), STATE);
        x.toggle(4, 20);
        x.toggle(2, 20);
        x.toggle(3, 20);
        due(() -> x.current(4, 19, false), STATE);
        for (int i = 2; i < 5; i++) {
            int number = i;
            due(() -> x.current(number, 20, true), 0);
            due(() -> x.current(number, 20, false), 1);
        }
        due(() -> x.current(0, 20, true), 12);
        due(() -> x.current(1, 20, true), 12);
        x.addElement(false, 0, 2, 9);
        due(() -> x.current(5, 0, true), -90);
        due(() -> x.current(5, 0, false), 1);
        for (int time : BAD_TIMES) {
            due(() -> x.current(4, time, true), ARGUMENT);
            due(() -> x.current(6, time, true), INDEX);
        }
        due(() -> x.current(-1, 0, true), INDEX);
    }

    private static void feed() {
        NetlistBench x = divider();
        due(() -> x.feed(2, 0, true), 12);
        due(() -> x.feed(2, 0, false), 1);
        due(() -> x.feed(0, 0, true), -12);
        x.addElement(true, 0, 2, 50);
        due(() -> x.feed(2, 0, true), -38);
        due(() -> x.feed(0, 0, true), 38);
        x.addElement(true, 1, 0, 4);
        // Node 1 is at 26/5 then, so that 72/5 less 50 are missing at node 2.
        due(() -> x.feed(2, 0, true), -178);
        due(() -> x.feed(2, 0, false), 5);
        due(() -> x.feed(0, 0, true), 178);
        x.addElement(false, 2, 0, 1);
        due(() -> x.feed(2, 0, true), -128);
        x.toggle(2, 9);
        x.toggle(3, 9);
        x.toggle(4, 9);
        due(() -> x.feed(2, 9, true), 12);
        x.rail(1, true, 6);
        due(() -> x.feed(1, 9, true), 0);
        due(() -> x.feed(1, 9, false), 1);
        x.rail(1, false, 6);
        due(() -> x.feed(1, 9, true), STATE);
        for (int time : BAD_TIMES) {
            due(() -> x.feed(1, time, true), ARGUMENT);
            due(() -> x.feed(3, time, true), INDEX);
        }
        due(() -> x.feed(-1, 0, true), INDEX);
    }

    private static void resistance() {
        NetlistBench x = bench(5);
        x.rail(0, true, 50);
        x.rail(1, true, 20);
        x.addElement(false, 0, 1, 4);
        x.addElement(false, 2, 1, 6);
        x.addElement(false, 2, 0, 3);
        x.addElement(true, 3, 0, 9);
        due(() -> x.resistance(0, 1, 0, true), 1);
        due(() -> x.resistance(0, 1, 0, false), 6);
        due(() -> x.resistance(1, 0, 0, false), 6);
        // 1/6 beside 1/4 + 1/3
        due(() -> x.resistance(1, 2, 0, true), 7);
        due(() -> x.resistance(1, 2, 0, false), 54);
        due(() -> x.resistance(4, 4, 0, true), 0);
        due(() -> x.resistance(4, 4, 0, false), 1);
        due(() -> x.resistance(0, 0, 0, true), 0);
        due(() -> x.resistance(0, 0, 0, false), 1);
        due(() -> x.resistance(3, 0, 0, true), STATE);
        due(() -> x.resistance(0, 4, 0, false), STATE);
        x.toggle(0, 40);
        due(() -> x.resistance(0, 1, 40, true), 1);
        due(() -> x.resistance(0, 1, 40, false), 2);
        x.toggle(1, 41);
        due(() -> x.resistance(0, 1, 41, false), STATE);
        due(() -> x.resistance(0, 2, 41, false), 3);
        x.addElement(false, 3, 4, 8);
        due(() -> x.resistance(4, 3, 0, false), 8);
        for (int time : BAD_TIMES) {
            due(() -> x.resistance(0, 4, time, true), ARGUMENT);
            due(() -> x.resistance(5, 5, time, true), INDEX);
        }
        due(() -> x.resistance(0, 5, 0, true), INDEX);
        due(() -> x.resistance(-1, 0, 0, true), INDEX);
    }

    private static void power() {
        NetlistBench x = divider();
        due(() -> x.power(0), 3 * 16.0 + 2 * 36.0);
        x.addElement(true, 0, 1, 4);
        double left = 10.0 - 34.0 / 5.0;
        double right = 34.0 / 5.0 - 0.0;
        due(() -> x.power(0), 3.0 * left * left + 2.0 * right * right);
        x.addNode();
        x.addNode();
        x.addElement(false, 3, 4, 9);
        x.addElement(true, 4, 3, 9);
        due(() -> x.power(0), 3.0 * left * left + 2.0 * right * right);
        x.toggle(0, 3);
        due(() -> x.power(3), 8.0);
        x.toggle(1, 4);
        due(() -> x.power(4), 0.0);
        for (int time : BAD_TIMES) {
            due(() -> x.power(time), ARGUMENT);
        }
    }

    private static void nextToggle() {
        NetlistBench x = divider();
        due(() -> x.nextToggle(0), -1);
        x.toggle(0, 300);
        x.toggle(1, 200);
        x.toggle(0, 100);
        x.toggle(1, 300);
        x.toggle(1, 999);
        due(() -> x.nextToggle(0), 100);
        due(() -> x.nextToggle(99), 100);
        due(() -> x.nextToggle(100), 200);
        due(() -> x.nextToggle(200), 300);
        due(() -> x.nextToggle(300), 999);
        due(() -> x.nextToggle(998), 999);
        due(() -> x.nextToggle(999), -1);
        x.begin(0, false);
        due(() -> x.nextToggle(0), 100);
        x.toggle(1, 999);
        due(() -> x.nextToggle(300), -1);
        x.toggle(0, 1);
        due(() -> x.nextToggle(0), 1);
        for (int time : BAD_TIMES) {
            due(() -> x.nextToggle(time), ARGUMENT);
        }
    }

    /** Node 1 is at 6; at 0 from 100 on; it floats from 200 on, is at 0 from 300 on, and at 6 from 400 on. */
    private static void probe() {
        NetlistBench x = divider();
        x.toggle(0, 100);
        x.toggle(1, 200);
        x.toggle(1, 300);
        x.toggle(0, 400);
        due(() -> x.probe(1, 0, 999, true), 0);
        due(() -> x.probe(1, 0, 999, false), 100);
        due(() -> x.probe(1, 50, 99, false), 50);
        due(() -> x.probe(1, 50, 100, false), 100);
        due(() -> x.probe(1, 150, 399, true), 150);
        due(() -> x.probe(1, 150, 400, true), 400);
        due(() -> x.probe(1, 150, 400, false), 150);
        due(() -> x.probe(1, 200, 299, true), -1);
        due(() -> x.probe(1, 200, 299, false), -1);
        due(() -> x.probe(1, 250, 250, true), -1);
        due(() -> x.probe(1, 250, 999, false), 300);
        due(() -> x.probe(1, 250, 999, true), 400);
        due(() -> x.probe(1, 400, 999, true), 400);
        due(() -> x.probe(1, 401, 401, false), 401);
        due(() -> x.probe(0, 7, 999, true), 7);
        due(() -> x.probe(1, 999, 999, true), 999);
        due(() -> x.probe(1, 5, 4, true), ARGUMENT);
        due(() -> x.probe(3, 5, 4, true), INDEX);
        due(() -> x.probe(-1, 0, 0, true), INDEX);
        for (int time : BAD_TIMES) {
            due(() -> x.probe(1, time, 999, true), ARGUMENT);
            due(() -> x.probe(1, 0, time, true), ARGUMENT);
            due(() -> x.probe(1, time, time, true), ARGUMENT);
            due(() -> x.probe(3, time, time, true), INDEX);
        }
        x.rail(0, true, -9);
        due(() -> x.probe(1, 0, 300, false), 100);
        x.rail(2, true, -20);
        due(() -> x.probe(1, 0, 999, true), 100);
        due(() -> x.probe(1, 0, 999, false), 0);
    }

    /** Two ways from node 6 to the lower rail: conductor 13, and the row that conductor 2 is part of. */
    private static void probeOfALadder() {
        NetlistBench x = bench(8);
        x.rail(0, true, 98);
        x.rail(7, true, 99);
        for (int i = 0; i < 6; i++) {
            x.addElement(false, i, i + 1, 9);
            x.addElement(false, i, 7, 1);
        }
        x.addElement(false, 6, 7, 9);
        x.addElement(false, 0, 6, 1);
        x.toggle(13, 10);
        x.toggle(13, 20);
        x.toggle(2, 20);
        // Node 6 is lowest with both ways (at 0), higher without the row (at 20), highest without 13 (at 10).
        due(() -> x.probe(6, 0, 19, true), 10);
        due(() -> x.probe(6, 0, 19, false), 0);
        due(() -> x.probe(6, 10, 29, false), 20);
        due(() -> x.probe(1, 0, 29, false), 20);
    }

    /** A conductor at the ladder's far end moves node 1, which is beyond 100, by some 10^-16 only. */
    private static void probeTellsWhatDoublesCannot() {
        NetlistBench x = bench(8);
        x.rail(0, true, 99);
        x.addElement(true, 0, 1, 1);
        x.addElement(false, 7, 0, 1);
        for (int i = 1; i < 7; i++) {
            x.addElement(false, i, i + 1, 1);
            x.addElement(false, i + 1, 0, 9);
            x.addElement(false, i + 1, 0, 9);
        }
        x.toggle(1, 10);
        x.toggle(1, 20);
        due(() -> x.probe(1, 0, 999, true), 10);
        due(() -> x.probe(1, 0, 999, false), 0);
        due(() -> x.probe(1, 15, 999, false), 20);
        x.resize(0, -1);
        due(() -> x.probe(1, 0, 999, true), 0);
        due(() -> x.probe(1, 0, 999, false), 10);
    }

    private static void compare() {
        NetlistBench x = divider();
        x.addElement(true, 0, 1, 4);
        x.addNode();
        due(() -> x.compare(1, 0, 34, 5), 0);
        due(() -> x.compare(1, 0, 68, 10), 0);
        due(() -> x.compare(1, 0, 7, 1), -1);
        due(() -> x.compare(1, 0, 6, 1), 1);
        due(() -> x.compare(1, 0, 500, 74), 1);
        due(() -> x.compare(1, 0, 500, 73), -1);
        due(() -> x.compare(1, 0, -500, 500), 1);
        due(() -> x.compare(0, 0, 0, 500), 0);
        due(() -> x.compare(0, 0, 1, 500), -1);
        due(() -> x.compare(0, 0, -1, 500), 1);
        due(() -> x.compare(3, 0, 0, 1), STATE);
        due(() -> x.compare(3, 0, 0, 0), ARGUMENT);
        for (int number : new int[] {-501, 501, Integer.MIN_VALUE, Integer.MAX_VALUE}) {
            due(() -> x.compare(1, 0, number, 1), ARGUMENT);
            due(() -> x.compare(1, 0, 1, number), ARGUMENT);
        }
        due(() -> x.compare(1, 0, 1, 0), ARGUMENT);
        due(() -> x.compare(1, 0, 1, -1), ARGUMENT);
        for (int time : BAD_TIMES) {
            due(() -> x.compare(3, time, 0, 1), ARGUMENT);
            due(() -> x.compare(4, time, 0, 0), INDEX);
        }
        due(() -> x.compare(-1, 0, 0, 1), INDEX);
        x.rail(2, true, -99);
        due(() -> x.compare(1, 0, -293, 5), 0);
        due(() -> x.compare(1, 0, -294, 5), 1);
        due(() -> x.compare(1, 0, -292, 5), -1);
    }

    private static void levels() {
        NetlistBench x = divider();
        due(() -> x.levels(0), 3);
        x.addNode();
        due(() -> x.levels(0), 3);
        x.rail(3, true, 6);
        due(() -> x.levels(0), 3);
        x.rail(3, true, 7);
        due(() -> x.levels(0), 4);
        x.toggle(0, 8);
        due(() -> x.levels(8), 3);
        x.toggle(1, 9);
        due(() -> x.levels(9), 3);
        x.rail(2, true, 0);
        due(() -> x.levels(9), 2);
        x.rail(0, false, 0);
        x.rail(2, false, 0);
        x.rail(3, false, 0);
        due(() -> x.levels(0), 0);
        NetlistBench full = bench(8);
        for (int node = 0; node < 8; node++) {
            full.rail(node, true, node % 7);
        }
        due(() -> full.levels(0), 7);
        for (int time : BAD_TIMES) {
            due(() -> x.levels(time), ARGUMENT);
        }
    }

    private static void digest() {
        NetlistBench x = divider();
        x.addNode();
        long[] circuit = {
            4, 2, 2, 0, 1, 0, 1, 0,
            0, 2, 1, 3, 1, 0,
            0, 1, 0, 2, 1, 0,
            0, 1, 6, 1, 10, 1, -1};
        due(() -> x.digest(), sum(circuit));
        x.toggle(1, 90);
        x.toggle(0, 90);
        x.toggle(0, 95);
        x.addElement(true, 3, 1, 33);
        x.begin(2, false);
        x.toggle(2, 70);
        // At the time 0 as before; at 70 node 1 is at 63/5.
        long[] switched = {
            4, 3, 2, 4, 1, 0, 1, 0,
            0, 2, 1, 3, 1, 2, 90, 95,
            0, 1, 0, 2, 1, 1, 90,
            1, 3, 1, 33, 0, 1, 70,
            0, 1, 6, 1, 10, 1, -1,
            0, 1, 63, 5, 10, 1, -1};
        due(() -> x.digest(), sum(switched));
        digestOfToggleAtOne();
    }

    private static void digestOfToggleAtOne() {
        NetlistBench x = divider();
        x.toggle(0, 1);
        x.toggle(1, 2);
        long[] circuit = {
            3, 2, 2, 2, 1, 0, 1,
            0, 2, 1, 3, 1, 1, 1,
            0, 1, 0, 2, 1, 1, 2,
            0, 1, 6, 1, 10, 1,
            0, 1, 0, 1, 10, 1};
        due(() -> x.digest(), sum(circuit));
    }

    private static long sum(long[] numbers) {
        long d = 409;
        for (long number : numbers) {
            d = d * 31 + number;
        }
        return d;
    }

    private static void throwingChangesNothing() {
        NetlistBench x = divider();
        for (int time = 1; time <= 6; time++) {
            x.toggle(0, time);
        }
        long before = x.digest();
        due(() -> x.rail(0, true, 100), ARGUMENT);
        due(() -> x.rail(1, true, 100), ARGUMENT);
        due(() -> x.addElement(false, 0, 1, 10), ARGUMENT);
        due(() -> x.addElement(true, 0, 3, 1), INDEX);
        due(() -> x.resize(0, 10), ARGUMENT);
        due(() -> x.begin(2, false), INDEX);
        due(() -> x.toggle(0, 7), STATE);
        due(() -> x.toggle(1, 1000), ARGUMENT);
        due(() -> x.feed(1, 0, true), STATE);
        due(() -> x.digest(), before);
    }
}
