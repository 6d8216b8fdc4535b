/** The sentences of "What it is" and of "Terms" that name a boundary. */
final class TermBoundaries {
    private static final String STATE = Check.STATE;

    private TermBoundaries() {
    }

    static void hold() {
        Sentences.hold("What it is", "An object is used for at most 512 calls after it has been made",
            TermBoundaries::lastCallOfAll);
        Sentences.hold("Terms", "There are at most 8 nodes, numbered from 0 in the order of their creation.",
            TermBoundaries::nodeNumbers);
        Sentences.hold("Terms", "A node can be a rail: then it has a potential of its own, -99 to 99.",
            TermBoundaries::railPotentials);
        Sentences.hold("Terms", "There are at most 20 elements, numbered likewise.", TermBoundaries::elementNumbers);
        Sentences.hold("Terms", "An element goes from a node a to another node b.", TermBoundaries::ends);
        Sentences.hold("Terms", "A conductor has a conductance, 1 to 9;", TermBoundaries::conductances);
        Sentences.hold("Terms", "a source a current, -99 to 99, which it takes out of a and brings into b.",
            TermBoundaries::sourceCurrents);
        Sentences.hold("Terms", "Times are 0 to 999.", TermBoundaries::times);
        Sentences.hold("Terms", "An element is on at the time 0, unless it was told to be off;",
            TermBoundaries::onAtFirst);
        Sentences.hold("Terms", "at each of its toggles (at most 6, at different times 1 to 999) it goes from on to off, "
            + "or from off to on;", TermBoundaries::eachToggle);
        Sentences.hold("Terms", "at the time of a toggle it is switched already.", TermBoundaries::switchedAlready);
        Sentences.hold("Terms", "What is off is as if it were not there.", TermBoundaries::whatIsOff);
        Sentences.hold("Terms", "if there is a way from one to the other one along conductors that are on",
            TermBoundaries::ways);
        Sentences.hold("Terms", "(a node with itself, too)", TermBoundaries::withItself);
        Sentences.hold("Terms", "A node floats, if no rail hangs together with it.", TermBoundaries::noRail);
        Sentences.hold("Terms", "a rail its own one;", TermBoundaries::ownPotential);
        Sentences.hold("Terms", "all others together the only ones for which the currents into each node that is no rail "
            + "and does not float add up to 0.", TermBoundaries::bridge);
        Sentences.hold("Terms", "The current through a conductor from a to b is its conductance times the potential of a "
            + "less that of b (it goes out of a and into b); sources bring what they do.", TermBoundaries::direction);
        Sentences.hold("Terms", "(Sources whose currents go into or out of floating nodes do so all the same.)",
            TermBoundaries::sourcesAtFloatingNodes);
        Sentences.hold("Terms", "Fractions are told by a numerator and a denominator without a common divisor greater "
            + "than 1; the denominator is greater than 0.", TermBoundaries::lowestTerms);
        Sentences.hold("Terms", "A potential is a quotient of two determinants of at most 7 rows;",
            TermBoundaries::sevenUnknowns);
        Sentences.hold("Terms", "numerators of potentials are less than 10^16, and denominators less than 10^12.",
            TermBoundaries::widestFractions);
    }

    private static void lastCallOfAll() {
        NetlistBench x = Benches.divider();
        x.toggle(1, 5);
        // 8 calls until here, and 503 here: the last one leaves a toggle at 7.
        for (int call = 9; call <= 511; call++) {
            int due = call % 2 == 0 ? 0 : 1;
            Check.due(() -> x.toggle(0, 7), due);
        }
        Check.due(() -> x.probe(1, 0, 999, true), 5);
        NetlistBench y = Benches.divider();
        for (int call = 8; call <= 511; call++) {
            Check.due(() -> y.potential(3, 0, true), Check.INDEX);
        }
        Check.due(() -> y.digest(), Benches.divider().digest());
        NetlistBench z = Benches.crowded();
        for (int call = Benches.CALLS_FOR_CROWDED + 1; call <= 511; call++) {
            z.probe(call % 8, 0, 999, call % 2 == 0);
        }
        Check.due(() -> z.digest(), Benches.crowded().digest());
    }

    private static void nodeNumbers() {
        NetlistBench x = new NetlistBench();
        for (int node = 0; node < 8; node++) {
            int told = node;
            Check.due(() -> x.addNode(), told);
            Check.due(() -> x.rail(told, true, 10 * told - 35), false);
        }
        for (int node = 0; node < 8; node++) {
            int told = node;
            Check.dueFraction(isUpper -> x.potential(told, 0, isUpper), 10 * told - 35, 1);
        }
        Check.due(() -> x.addNode(), STATE);
    }

    private static void railPotentials() {
        NetlistBench x = Benches.of(8);
        for (int potential = -99; potential <= 99; potential++) {
            int told = potential;
            Check.due(() -> x.rail(7, true, told), told != -99);
            Check.due(() -> x.potential(7, 999, true), told);
        }
        Check.due(() -> x.rail(7, true, 100), Check.ARGUMENT);
        Check.due(() -> x.rail(7, true, -100), Check.ARGUMENT);
        Check.due(() -> x.potential(7, 0, true), 99);
    }

    private static void elementNumbers() {
        NetlistBench x = Benches.of(8);
        for (int element = 0; element < 20; element++) {
            int told = element;
            Check.due(() -> x.addElement(told % 3 == 0, told % 8, (told + 3) % 8, 1 + told % 9), told);
        }
        for (int element = 0; element < 20; element++) {
            int told = element;
            Check.due(() -> x.element(told, 1), told % 8);
            Check.due(() -> x.element(told, 3), 1 + told % 9);
        }
        Check.due(() -> x.addElement(false, 0, 1, 1), STATE);
    }

    private static void ends() {
        NetlistBench x = Benches.of(8);
        for (int node = 0; node < 8; node++) {
            int told = node;
            Check.due(() -> x.addElement(false, told, told, 1), Check.ARGUMENT);
            Check.due(() -> x.addElement(true, told, told, 1), Check.ARGUMENT);
        }
        Check.due(() -> x.addElement(false, 0, 7, 1), 0);
        Check.due(() -> x.addElement(true, 7, 0, 1), 1);
        Check.due(() -> x.element(0, 1), 0);
        Check.due(() -> x.element(0, 2), 7);
        Check.due(() -> x.element(1, 1), 7);
        Check.due(() -> x.element(1, 2), 0);
    }

    private static void conductances() {
        NetlistBench x = Benches.of(2);
        x.rail(0, true, 7);
        x.rail(1, true, 0);
        for (int size = 1; size <= 9; size++) {
            int told = size;
            Check.due(() -> x.addElement(false, 0, 1, told), told - 1);
            Check.dueFraction(isUpper -> x.current(told - 1, 0, isUpper), 7L * told, 1);
        }
        for (int size : new int[] {0, -1, 10, 99, -99}) {
            Check.due(() -> x.addElement(false, 0, 1, size), Check.ARGUMENT);
        }
        Check.due(() -> x.feed(0, 0, true), 7 * 45);
    }

    private static void sourceCurrents() {
        for (int turn = 0; turn < 2; turn++) {
            NetlistBench x = Benches.row(2, 1);
            x.rail(0, true, 0);
            x.addElement(true, turn, 1 - turn, 0);
            int sign = turn == 0 ? 1 : -1;
            for (int size = -99; size <= 99; size++) {
                int told = size;
                Check.due(() -> x.resize(1, told), told == -99 ? 0 : told - 1);
                Check.due(() -> x.potential(1, 0, true), sign * told);
            }
            Check.due(() -> x.resize(1, 100), Check.ARGUMENT);
            Check.due(() -> x.resize(1, -100), Check.ARGUMENT);
        }
    }

    private static void times() {
        NetlistBench x = Benches.divider();
        x.toggle(1, 999);
        for (int time : Benches.TIMES) {
            Check.due(() -> x.isOn(1, time), time < 999);
            Check.due(() -> x.potential(1, time, true), time < 999 ? 6 : 10);
        }
        for (int time : Benches.NO_TIMES) {
            Check.due(() -> x.isOn(1, time), Check.ARGUMENT);
        }
    }

    private static void onAtFirst() {
        NetlistBench x = Benches.withElements(20);
        for (int element = 0; element < 20; element++) {
            int told = element;
            Check.due(() -> x.isOn(told, 0), true);
            Check.due(() -> x.isOn(told, 999), true);
            Check.due(() -> x.element(told, 4), 1);
            x.begin(told, false);
            Check.due(() -> x.isOn(told, 0), false);
            Check.due(() -> x.isOn(told, 999), false);
            Check.due(() -> x.element(told, 4), 0);
        }
    }

    private static void eachToggle() {
        for (boolean isOnAtFirst : new boolean[] {true, false}) {
            NetlistBench x = Benches.withElements(20);
            int[] times = {999, 1, 998, 2, 500, 3};
            int[] inOrder = {1, 2, 3, 500, 998, 999};
            for (int element : new int[] {0, 19}) {
                x.begin(element, isOnAtFirst);
                for (int i = 0; i < 6; i++) {
                    int due = i + 1;
                    int time = times[i];
                    Check.due(() -> x.toggle(element, time), due);
                }
                for (int i = 0; i < 6; i++) {
                    int number = i;
                    boolean isOnBefore = isOnAtFirst == (i % 2 == 0);
                    Check.due(() -> x.toggleAt(element, number), inOrder[number]);
                    Check.due(() -> x.isOn(element, inOrder[number] - 1), isOnBefore);
                    Check.due(() -> x.isOn(element, inOrder[number]), !isOnBefore);
                }
                Check.due(() -> x.toggle(element, 4), STATE);
            }
            Check.due(() -> x.isOn(1, 999), true);
        }
    }

    private static void switchedAlready() {
        NetlistBench x = Benches.divider();
        x.toggle(0, 1);
        x.toggle(0, 999);
        Check.due(() -> x.isOn(0, 0), true);
        Check.due(() -> x.isOn(0, 1), false);
        Check.due(() -> x.isOn(0, 998), false);
        Check.due(() -> x.isOn(0, 999), true);
        Check.due(() -> x.potential(1, 0, true), 6);
        Check.due(() -> x.potential(1, 1, true), 0);
        Check.due(() -> x.potential(1, 998, true), 0);
        Check.due(() -> x.potential(1, 999, true), 6);
        Check.due(() -> x.together(0, 1), 3);
        Check.due(() -> x.together(0, 999), 7);
    }

    private static void whatIsOff() {
        NetlistBench x = Benches.divider();
        x.addNode();
        x.addElement(true, 0, 1, 70);
        x.addElement(false, 1, 3, 4);
        x.addElement(false, 0, 2, 9);
        for (int element = 2; element < 5; element++) {
            x.toggle(element, 10);
        }
        Check.due(() -> x.potential(1, 9, true), 20);
        Check.dueFraction(isUpper -> x.potential(1, 10, isUpper), 6, 1);
        Check.due(() -> x.together(1, 9), 15);
        Check.due(() -> x.together(1, 10), 7);
        Check.due(() -> x.floats(3, 9), false);
        Check.due(() -> x.floats(3, 10), true);
        Check.due(() -> x.feed(2, 9, true), 60);
        Check.due(() -> x.feed(2, 10, true), 12);
        Check.dueFraction(isUpper -> x.resistance(0, 2, 10, isUpper), 5, 6);
        Check.due(() -> x.power(10), Benches.divider().power(10));
        Check.due(() -> x.levels(10), 3);
    }

    private static void ways() {
        NetlistBench x = Benches.row(8, 1);
        x.addElement(true, 0, 7, 5);
        for (int element = 0; element < 7; element++) {
            x.toggle(element, 10 * element + 10);
        }
        // Conductor i, between the nodes i and i + 1, is off from 10 * i + 10 on: from its low end on the row falls apart.
        for (int time = 0; time <= 70; time += 10) {
            int alone = time / 10;
            int told = time;
            for (int node = 0; node < 8; node++) {
                int from = node;
                int due = node < alone ? 1 << node : 255 & -(1 << alone);
                Check.due(() -> x.together(from, told), due);
            }
        }
    }

    private static void withItself() {
        NetlistBench x = Benches.of(8);
        x.addElement(true, 0, 7, 9);
        x.rail(3, true, 9);
        for (int node = 0; node < 8; node++) {
            int told = node;
            Check.due(() -> x.together(told, 0), 1 << told);
            Check.dueFraction(isUpper -> x.resistance(told, told, 0, isUpper), 0, 1);
            Check.due(() -> x.floats(told, 0), told != 3);
        }
    }

    private static void noRail() {
        for (int rail = 0; rail < 8; rail++) {
            NetlistBench x = Benches.row(8, 2);
            x.addElement(true, 0, 7, 3);
            int only = rail;
            for (int node = 0; node < 8; node++) {
                int told = node;
                Check.due(() -> x.floats(told, 0), true);
            }
            x.rail(only, true, 0);
            x.toggle(3, 1);
            for (int node = 0; node < 8; node++) {
                int told = node;
                Check.due(() -> x.floats(told, 0), false);
                // From 1 on the row is two: the nodes 0 to 3, and 4 to 7.
                Check.due(() -> x.floats(told, 1), told / 4 != only / 4);
            }
        }
    }

    private static void ownPotential() {
        NetlistBench x = Benches.row(3, 9);
        x.rail(0, true, -99);
        x.rail(1, true, 99);
        x.rail(2, true, 0);
        x.addElement(true, 0, 1, 99);
        Check.dueFraction(isUpper -> x.potential(0, 0, isUpper), -99, 1);
        Check.dueFraction(isUpper -> x.potential(1, 0, isUpper), 99, 1);
        Check.dueFraction(isUpper -> x.potential(2, 0, isUpper), 0, 1);
    }

    /** 1 * (10 - 4) = 2 * 4 + 1 * (4 - 6) at node 1, and 2 * (10 - 6) + 1 * (4 - 6) = 1 * 6 at node 2. */
    private static void bridge() {
        NetlistBench x = Benches.of(6);
        x.rail(0, true, 0);
        x.rail(3, true, 10);
        x.addElement(false, 3, 1, 1);
        x.addElement(false, 1, 0, 2);
        x.addElement(false, 3, 2, 2);
        x.addElement(false, 2, 0, 1);
        x.addElement(false, 1, 2, 1);
        x.addElement(false, 4, 5, 1);
        Check.dueFraction(isUpper -> x.potential(1, 0, isUpper), 4, 1);
        Check.dueFraction(isUpper -> x.potential(2, 0, isUpper), 6, 1);
        Check.dueFraction(isUpper -> x.current(4, 0, isUpper), -2, 1);
        Check.due(() -> x.potential(4, 0, true), STATE);
        // Another rail in a group of its own, and one node more beside it, that has nothing to do with the bridge.
        x.rail(4, true, -7);
        Check.dueFraction(isUpper -> x.potential(5, 0, isUpper), -7, 1);
        Check.dueFraction(isUpper -> x.potential(1, 0, isUpper), 4, 1);
    }

    private static void direction() {
        NetlistBench x = Benches.of(2);
        x.rail(0, true, 5);
        x.rail(1, true, 3);
        x.addElement(false, 0, 1, 4);
        x.addElement(false, 1, 0, 4);
        x.addElement(true, 0, 1, 6);
        Check.dueFraction(isUpper -> x.current(0, 0, isUpper), 8, 1);
        Check.dueFraction(isUpper -> x.current(1, 0, isUpper), -8, 1);
        Check.dueFraction(isUpper -> x.current(2, 0, isUpper), 6, 1);
        // Both conductors take out of node 0 what they bring into node 1; the source does so as well.
        Check.dueFraction(isUpper -> x.feed(0, 0, isUpper), 22, 1);
        Check.dueFraction(isUpper -> x.feed(1, 0, isUpper), -22, 1);
    }

    private static void sourcesAtFloatingNodes() {
        NetlistBench x = Benches.divider();
        x.addNode();
        x.addElement(true, 1, 3, 5);
        Check.dueFraction(isUpper -> x.potential(1, 0, isUpper), 5, 1);
        x.addElement(true, 3, 1, 15);
        Check.dueFraction(isUpper -> x.potential(1, 0, isUpper), 8, 1);
        Check.due(() -> x.potential(3, 0, true), STATE);
        x.addElement(true, 3, 2, 50);
        x.addElement(true, 0, 3, 60);
        // At node 2 the conductor takes out 3 * (10 - 8), at node 0 the other one brings 2 * 8.
        Check.dueFraction(isUpper -> x.feed(2, 0, isUpper), 6 - 50, 1);
        Check.dueFraction(isUpper -> x.feed(0, 0, isUpper), 60 - 16, 1);
    }

    private static void lowestTerms() {
        NetlistBench x = Benches.divider();
        x.addElement(true, 1, 0, 33);
        Check.dueFraction(isUpper -> x.potential(1, 0, isUpper), -3, 5);
        Check.dueFraction(isUpper -> x.current(0, 0, isUpper), 159, 5);
        Check.dueFraction(isUpper -> x.current(1, 0, isUpper), -6, 5);
        Check.dueFraction(isUpper -> x.feed(0, 0, isUpper), -159, 5);
        Check.dueFraction(isUpper -> x.feed(2, 0, isUpper), 159, 5);
        Check.dueFraction(isUpper -> x.resistance(0, 2, 0, isUpper), 5, 6);
        x.resize(2, 30);
        Check.dueFraction(isUpper -> x.potential(1, 0, isUpper), 0, 1);
        Check.dueFraction(isUpper -> x.current(1, 0, isUpper), 0, 1);
        NetlistBench y = Benches.row(4, 6);
        y.rail(0, true, -10);
        y.addElement(true, 3, 0, 9);
        Check.dueFraction(isUpper -> y.potential(1, 0, isUpper), -23, 2);
        Check.dueFraction(isUpper -> y.potential(2, 0, isUpper), -13, 1);
        Check.dueFraction(isUpper -> y.potential(3, 0, isUpper), -29, 2);
        Check.dueFraction(isUpper -> y.resistance(3, 0, 0, isUpper), 1, 2);
    }

    /** One rail, wherever it is, and seven nodes in a ring with it that are sought. */
    private static void sevenUnknowns() {
        for (int rail = 0; rail < 8; rail++) {
            NetlistBench x = Benches.row(8, 1);
            x.addElement(false, 0, 7, 1);
            int only = rail;
            int far = (rail + 4) % 8;
            x.rail(only, true, 50);
            x.addElement(true, only, far, 4);
            for (int steps = 0; steps <= 4; steps++) {
                int after = (rail + steps) % 8;
                int before = (rail + 8 - steps) % 8;
                int due = 50 + 2 * steps;
                Check.dueFraction(isUpper -> x.potential(after, 0, isUpper), due, 1);
                Check.dueFraction(isUpper -> x.potential(before, 0, isUpper), due, 1);
            }
            Check.dueFraction(isUpper -> x.resistance(only, far, 0, isUpper), 2, 1);
        }
    }

    /** Circuits found by a search for wide fractions, which were worked out by elimination in BigIntegers. */
    private static void widestFractions() {
        NetlistBench x = wide(99, 7, 6, 97, new int[] {
            709, 729, 69, 149, 248, 459, 568, 618, 579, 179, 368, 139, 239, 49, 59, 348, 28, 269, 359});
        Check.dueFraction(isUpper -> x.potential(0, 0, isUpper), 5268514967926L, 51825694383L);
        NetlistBench y = wide(99, 0, 7, -85, new int[] {
            59, 149, 549, 329, 728, 39, 648, 69, 519, 379, 128, 719, 169, 358, 249, 758, 209, 768, 369});
        Check.dueFraction(isUpper -> y.potential(0, 0, isUpper), 5325155787208L, 51458486067L);
        NetlistBench z = wide(-99, 0, 7, 85, new int[] {
            59, 149, 549, 329, 728, 39, 648, 69, 519, 379, 128, 719, 169, 358, 249, 758, 209, 768, 369});
        Check.dueFraction(isUpper -> z.potential(0, 0, isUpper), -5325155787208L, 51458486067L);
    }

    /** Node 7 is the rail; each conductor is told as three digits: node a, node b, conductance. */
    private static NetlistBench wide(int potential, int from, int to, int current, int[] conductors) {
        NetlistBench x = Benches.of(8);
        x.rail(7, true, potential);
        for (int conductor : conductors) {
            x.addElement(false, conductor / 100, conductor / 10 % 10, conductor % 10);
        }
        x.addElement(true, from, to, current);
        return x;
    }
}
