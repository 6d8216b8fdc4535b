/** The sentences of the promises 14 to 18 that name a boundary: what is told of potentials and currents at a time. */
final class FractionBoundaries {
    private static final String STATE = Check.STATE;
    private static final String NO_ELEMENT = "Throws `IndexOutOfBoundsException` if there is no such element";
    private static final String RESISTANCE_BY_CONDUCTORS =
        "by the conductors alone, as if there were no rails and sources: the potential of a less that of b, "
        + "if a current of 1 is brought into a and taken out of b.";

    private FractionBoundaries() {
    }

    static void hold() {
        holdPotential();
        holdCurrent();
        holdFeed();
        holdResistance();
        Sentences.hold("Promise 18", "over all conductors that are on and whose nodes do not float",
            FractionBoundaries::conductorsOfPower);
        Sentences.hold("Promise 18", "in ascending order of their numbers, of conductance * u * u, u being the potential of "
            + "a less that of b: each of both is its numerator divided by its denominator, as doubles.",
            FractionBoundaries::doublesOfPower);
        Sentences.holdNoSuchTime("Promise 18", (x, time) -> x.power(time));
    }

    private static void holdPotential() {
        Sentences.hold("Promise 14", "whether the numerator of its potential is meant; otherwise the denominator",
            FractionBoundaries::potentialParts);
        Sentences.holdNoSuchNode("Promise 14", (x, node) -> x.potential(node, 0, true));
        Sentences.holdNoSuchNode("Promise 14", (x, node) -> x.potential(node, 0, false));
        Sentences.holdNoSuchTime("Promise 14", (x, time) -> x.potential(0, time, true));
        Sentences.holdNoSuchTime("Promise 14", (x, time) -> x.potential(1, time, false));
        Sentences.hold("Promise 14", "Throws `IllegalStateException` if it floats", () -> {
            for (boolean isUpper : new boolean[] {true, false}) {
                dueWhileGrounded((x, node, time) -> x.potential(node, time, isUpper));
            }
        });
    }

    private static void holdCurrent() {
        Sentences.hold("Promise 15", "for a source its current (also if its nodes float);",
            FractionBoundaries::currentOfSources);
        Sentences.hold("Promise 15", "0 / 1 for what is off.", FractionBoundaries::currentOfWhatIsOff);
        Sentences.holdNoSuchElement("Promise 15", NO_ELEMENT, (x, element) -> x.current(element, 0, true));
        Sentences.holdNoSuchElement("Promise 15", NO_ELEMENT, (x, element) -> x.current(element, 0, false));
        Sentences.holdNoSuchTime("Promise 15", (x, time) -> x.current(0, time, true));
        Sentences.hold("Promise 15", "Throws `IllegalArgumentException` if time is not 0 to 999", () -> {
            NetlistBench x = Benches.divider();
            x.addElement(true, 0, 1, 5);
            x.begin(0, false);
            for (int time : Benches.NO_TIMES) {
                Check.due(() -> x.current(0, time, false), Check.ARGUMENT);
                Check.due(() -> x.current(2, time, true), Check.ARGUMENT);
            }
        });
        Sentences.hold("Promise 15", "Throws `IllegalStateException` if it is a conductor that is on, and its nodes float",
            FractionBoundaries::currentRefused);
    }

    private static void holdFeed() {
        Sentences.hold("Promise 16", "Tells what has to be brought into a rail from outside, so that the currents into it "
            + "add up to 0.", FractionBoundaries::feeds);
        Sentences.holdNoSuchNode("Promise 16", (x, node) -> x.feed(node, 0, true));
        Sentences.holdNoSuchNode("Promise 16", (x, node) -> x.feed(node, 0, false));
        Sentences.holdNoSuchTime("Promise 16", (x, time) -> x.feed(0, time, true));
        Sentences.holdNoSuchTime("Promise 16", (x, time) -> x.feed(2, time, false));
        Sentences.hold("Promise 16", "Throws `IllegalStateException` if it is no rail", FractionBoundaries::feedRefused);
    }

    private static void holdResistance() {
        Sentences.hold("Promise 17", RESISTANCE_BY_CONDUCTORS, FractionBoundaries::resistances);
        Sentences.hold("Promise 17", "Returns this; 0 / 1 if a and b are the same.", FractionBoundaries::noResistance);
        Sentences.holdNoSuchNode("Promise 17", (x, node) -> x.resistance(node, 0, 0, true));
        Sentences.holdNoSuchNode("Promise 17", (x, node) -> x.resistance(0, node, 0, false));
        Sentences.holdNoSuchNode("Promise 17", (x, node) -> x.resistance(node, node, 0, true));
        Sentences.holdNoSuchTime("Promise 17", (x, time) -> x.resistance(0, 2, time, true));
        Sentences.holdNoSuchTime("Promise 17", (x, time) -> x.resistance(1, 1, time, false));
        Sentences.hold("Promise 17", "Throws `IllegalStateException` if they do not hang together",
            FractionBoundaries::resistanceRefused);
    }

    interface AtATime {
        Object answer(NetlistBench x, int node, int time);
    }

    /** Node 7 is a rail at one end of a row, node 0 at the other end; its conductor is on but from 100 to 199. */
    static void dueWhileGrounded(AtATime call) {
        NetlistBench x = Benches.row(8, 1);
        x.addElement(true, 7, 0, 50);
        for (int node = 0; node < 8; node++) {
            int told = node;
            Check.due(() -> call.answer(x, told, 0), STATE);
        }
        x.rail(7, true, 0);
        x.toggle(0, 100);
        x.toggle(0, 200);
        for (int time : new int[] {0, 99, 200, 999}) {
            Check.dueOther("node 0 at " + time, () -> call.answer(x, 0, time), STATE);
        }
        for (int time : new int[] {100, 101, 199}) {
            Check.due(() -> call.answer(x, 0, time), STATE);
            for (int node = 1; node < 8; node++) {
                int told = node;
                Check.dueOther("node " + node, () -> call.answer(x, told, time), STATE);
            }
        }
    }

    // ---- Promise 14

    private static void potentialParts() {
        NetlistBench x = Benches.row(8, 9);
        x.rail(0, true, -99);
        x.addElement(true, 0, 7, 1);
        for (int node = 0; node < 8; node++) {
            int told = node;
            int divisor = node % 3 == 0 ? 3 : 1;
            int due = (node - 9 * 99) / divisor;
            int lower = node == 0 ? 1 : 9 / divisor;
            Check.due(() -> x.potential(told, 0, true), node == 0 ? -99 : due);
            Check.due(() -> x.potential(told, 999, false), lower);
        }
    }

    // ---- Promise 15

    private static void currentOfSources() {
        NetlistBench x = Benches.of(4);
        x.rail(2, true, 50);
        for (int i = 0; i < 3; i++) {
            x.addElement(true, i, 3, 0);
            for (int size : new int[] {-99, -1, 0, 1, 99}) {
                int number = i;
                x.resize(number, size);
                Check.dueFraction(isUpper -> x.current(number, 0, isUpper), size, 1);
                Check.dueFraction(isUpper -> x.current(number, 999, isUpper), size, 1);
            }
        }
        // Between two rails as well.
        x.rail(3, true, -50);
        Check.dueFraction(isUpper -> x.current(2, 0, isUpper), 99, 1);
    }

    private static void currentOfWhatIsOff() {
        NetlistBench x = Benches.divider();
        x.addNode();
        x.addNode();
        x.addElement(true, 0, 1, 99);
        x.addElement(false, 3, 4, 9);
        x.addElement(true, 3, 4, -99);
        for (int element = 0; element < 5; element++) {
            x.toggle(element, 1);
            x.toggle(element, 999);
        }
        for (int element = 0; element < 5; element++) {
            int told = element;
            for (int time : new int[] {1, 2, 998}) {
                Check.dueFraction(isUpper -> x.current(told, time, isUpper), 0, 1);
            }
            x.toggle(told, 999);
            x.toggle(told, 1);
            x.begin(told, false);
            Check.dueFraction(isUpper -> x.current(told, 0, isUpper), 0, 1);
            Check.dueFraction(isUpper -> x.current(told, 999, isUpper), 0, 1);
        }
    }

    private static void currentRefused() {
        NetlistBench x = Benches.of(5);
        x.rail(4, true, 3);
        x.addElement(false, 0, 1, 9);
        x.addElement(true, 2, 3, 7);
        x.addElement(false, 2, 3, 9);
        x.addElement(false, 1, 4, 1);
        x.toggle(0, 50);
        x.toggle(3, 40);
        for (boolean isUpper : new boolean[] {true, false}) {
            Check.due(() -> x.current(2, 0, isUpper), STATE);
            Check.due(() -> x.current(2, 999, isUpper), STATE);
            Check.due(() -> x.current(0, 39, isUpper), isUpper ? 0 : 1);
            Check.due(() -> x.current(0, 40, isUpper), STATE);
            Check.due(() -> x.current(0, 49, isUpper), STATE);
            Check.due(() -> x.current(0, 50, isUpper), isUpper ? 0 : 1);
            Check.due(() -> x.current(1, 0, isUpper), isUpper ? 7 : 1);
        }
        x.rail(0, true, 8);
        Check.due(() -> x.current(0, 40, true), 0);
        x.rail(2, true, 8);
        x.rail(3, true, 6);
        Check.dueFraction(isUpper -> x.current(2, 0, isUpper), 18, 1);
    }

    // ---- Promise 16

    private static void feeds() {
        NetlistBench x = Benches.of(4);
        x.rail(0, true, 99);
        x.rail(1, true, -99);
        Check.dueFraction(isUpper -> x.feed(0, 0, isUpper), 0, 1);
        x.addElement(false, 0, 1, 9);
        Check.dueFraction(isUpper -> x.feed(0, 0, isUpper), 9 * 198, 1);
        Check.dueFraction(isUpper -> x.feed(1, 0, isUpper), -9 * 198, 1);
        x.addElement(true, 0, 2, 99);
        Check.dueFraction(isUpper -> x.feed(0, 0, isUpper), 9 * 198 + 99, 1);
        x.addElement(true, 3, 1, 99);
        Check.dueFraction(isUpper -> x.feed(1, 0, isUpper), -9 * 198 - 99, 1);
        for (int element = 0; element < 3; element++) {
            x.toggle(element, 999);
        }
        Check.dueFraction(isUpper -> x.feed(0, 998, isUpper), 9 * 198 + 99, 1);
        Check.dueFraction(isUpper -> x.feed(0, 999, isUpper), 0, 1);
        Check.dueFraction(isUpper -> x.feed(1, 999, isUpper), 0, 1);
        NetlistBench y = Benches.of(3);
        y.rail(0, true, 1);
        y.rail(2, true, 0);
        y.addElement(false, 0, 1, 8);
        y.addElement(false, 1, 2, 9);
        y.addElement(true, 1, 2, 1);
        // Node 1 is at 7/17; 8 * 10/17 go out of node 0, and 63/17 + 1 come into node 2.
        Check.dueFraction(isUpper -> y.feed(0, 0, isUpper), 80, 17);
        Check.dueFraction(isUpper -> y.feed(2, 0, isUpper), -80, 17);
        // The greatest of all: 20 conductors of 9 between 99 and -99.
        NetlistBench z = Benches.of(2);
        z.rail(0, true, 99);
        z.rail(1, true, -99);
        for (int i = 0; i < 20; i++) {
            z.addElement(false, i % 2, 1 - i % 2, 9);
        }
        Check.dueFraction(isUpper -> z.feed(0, 0, isUpper), 20 * 9 * 198, 1);
        Check.dueFraction(isUpper -> z.feed(1, 0, isUpper), -20 * 9 * 198, 1);
    }

    private static void feedRefused() {
        NetlistBench x = Benches.divider();
        x.addNode();
        for (boolean isUpper : new boolean[] {true, false}) {
            Check.due(() -> x.feed(1, 0, isUpper), STATE);
            Check.due(() -> x.feed(3, 0, isUpper), STATE);
            Check.due(() -> x.feed(1, 999, isUpper), STATE);
            Check.dueOther("rail 0", () -> x.feed(0, 0, isUpper), STATE);
            Check.dueOther("rail 2", () -> x.feed(2, 999, isUpper), STATE);
        }
        x.rail(0, false, 0);
        Check.due(() -> x.feed(0, 0, true), STATE);
        x.rail(3, true, 0);
        Check.due(() -> x.feed(3, 0, true), 0);
    }

    // ---- Promise 17

    private static void resistances() {
        NetlistBench x = Benches.row(8, 1);
        Check.dueFraction(isUpper -> x.resistance(0, 7, 0, isUpper), 7, 1);
        Check.dueFraction(isUpper -> x.resistance(7, 0, 999, isUpper), 7, 1);
        x.addElement(true, 0, 7, 99);
        x.rail(0, true, 99);
        x.rail(3, true, 0);
        x.rail(4, true, -99);
        x.rail(7, true, 0);
        for (int a = 0; a < 8; a++) {
            for (int b = 0; b < 8; b++) {
                int from = a;
                int to = b;
                Check.dueFraction(isUpper -> x.resistance(from, to, 0, isUpper), Math.abs(a - b), 1);
            }
        }
        x.toggle(7, 1);
        x.addElement(false, 0, 7, 1);
        Check.dueFraction(isUpper -> x.resistance(0, 7, 0, isUpper), 7, 8);
        Check.dueFraction(isUpper -> x.resistance(1, 5, 0, isUpper), 2, 1);
        x.toggle(8, 1);
        Check.dueFraction(isUpper -> x.resistance(0, 7, 1, isUpper), 7, 1);
        NetlistBench y = Benches.of(2);
        for (int i = 0; i < 20; i++) {
            y.addElement(false, i % 2, 1 - i % 2, 9);
        }
        Check.dueFraction(isUpper -> y.resistance(0, 1, 0, isUpper), 1, 180);
        Check.dueFraction(isUpper -> y.resistance(1, 0, 0, isUpper), 1, 180);
        NetlistBench z = Benches.divider();
        Check.dueFraction(isUpper -> z.resistance(0, 2, 0, isUpper), 5, 6);
    }

    private static void noResistance() {
        NetlistBench x = Benches.divider();
        x.addNode();
        x.addElement(true, 3, 0, 5);
        x.toggle(0, 10);
        x.toggle(1, 10);
        for (int node = 0; node < 4; node++) {
            int told = node;
            for (int time : new int[] {0, 10, 999}) {
                Check.dueFraction(isUpper -> x.resistance(told, told, time, isUpper), 0, 1);
            }
        }
        NetlistBench y = Benches.crowded();
        for (int node = 0; node < 8; node++) {
            int told = node;
            Check.dueFraction(isUpper -> y.resistance(told, told, 0, isUpper), 0, 1);
            Check.dueFraction(isUpper -> y.resistance(told, told, 1, isUpper), 0, 1);
        }
    }

    private static void resistanceRefused() {
        NetlistBench x = Benches.row(4, 2);
        x.rail(0, true, 5);
        x.rail(3, true, 5);
        x.addElement(true, 0, 3, 9);
        x.toggle(1, 100);
        x.toggle(1, 200);
        for (boolean isUpper : new boolean[] {true, false}) {
            for (int time : new int[] {100, 199}) {
                Check.due(() -> x.resistance(0, 3, time, isUpper), STATE);
                Check.due(() -> x.resistance(3, 0, time, isUpper), STATE);
                Check.due(() -> x.resistance(1, 2, time, isUpper), STATE);
                Check.due(() -> x.resistance(0, 1, time, isUpper), isUpper ? 1 : 2);
                Check.due(() -> x.resistance(2, 3, time, isUpper), isUpper ? 1 : 2);
            }
            Check.due(() -> x.resistance(0, 3, 99, isUpper), isUpper ? 3 : 2);
            Check.due(() -> x.resistance(0, 3, 200, isUpper), isUpper ? 3 : 2);
        }
        Check.due(() -> Benches.of(2).resistance(0, 1, 0, true), STATE);
    }

    // ---- Promise 18

    private static void conductorsOfPower() {
        Check.due(() -> new NetlistBench().power(0), 0.0);
        NetlistBench x = Benches.divider();
        x.addNode();
        x.addNode();
        x.addElement(false, 3, 4, 9);
        x.addElement(true, 3, 4, 99);
        x.addElement(true, 0, 3, 99);
        x.toggle(0, 1);
        x.toggle(1, 999);
        Check.due(() -> x.power(0), 3 * 16.0 + 2 * 36.0);
        Check.due(() -> x.power(1), 0.0);
        x.addElement(true, 0, 1, 4);
        Check.due(() -> x.power(1), 2 * 2.0 * 2.0);
        Check.due(() -> x.power(998), 8.0);
        Check.due(() -> x.power(999), 0.0);
        x.rail(4, true, 0);
        // 99 - 99 = 0 is what the sources bring into node 3, now that it does not float.
        Check.due(() -> x.power(1), 8.0);
        x.begin(4, false);
        // 99 go out of node 3 through the source, and come in through the conductor: u is -11.
        Check.due(() -> x.power(1), 8.0 + 9.0 * 11.0 * 11.0);
        x.rail(3, true, 99);
        Check.due(() -> x.power(999), 9.0 * 99.0 * 99.0);
    }

    /** Here it shows in the last digit, if doubles are multiplied or added up in another order, or u is an exact one. */
    private static void doublesOfPower() {
        NetlistBench x = Benches.of(4);
        x.rail(0, true, 0);
        x.rail(3, true, 9);
        x.addElement(false, 3, 1, 6);
        x.addElement(false, 1, 2, 4);
        x.addElement(false, 2, 0, 5);
        x.addElement(false, 3, 2, 3);
        x.addElement(false, 1, 0, 9);
        double one = 189.0 / 53.0;
        double two = 729.0 / 212.0;
        double sum = 0.0;
        sum += 6.0 * (9.0 - one) * (9.0 - one);
        sum += 4.0 * (one - two) * (one - two);
        sum += 5.0 * two * two;
        sum += 3.0 * (9.0 - two) * (9.0 - two);
        sum += 9.0 * one * one;
        Check.due(() -> x.power(0), 443.58962264150944);
        Check.due("the sum itself", String.valueOf(sum), "443.58962264150944");
    }
}
