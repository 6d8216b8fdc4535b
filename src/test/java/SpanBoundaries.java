import java.math.BigInteger;

/** The sentences of the promises 19 to 23 that name a boundary: toggles ahead, probes, comparisons, levels, checksum. */
final class SpanBoundaries {
    private static final String ARGUMENT = Check.ARGUMENT;
    private static final String STATE = Check.STATE;

    private SpanBoundaries() {
    }

    static void hold() {
        Sentences.hold("Promise 19", "Returns the first time behind it at which an element has a toggle;",
            SpanBoundaries::firstBehind);
        Sentences.hold("Promise 19", "-1 if there is none.", SpanBoundaries::noneBehind);
        Sentences.holdNoSuchTime("Promise 19", (x, time) -> x.nextToggle(time));
        holdProbe();
        holdCompare();
        Sentences.hold("Promise 22", "Returns how many different potentials the nodes have that do not float.",
            SpanBoundaries::differentPotentials);
        Sentences.holdNoSuchTime("Promise 22", (x, time) -> x.levels(time));
        holdDigest();
    }

    private static void holdProbe() {
        Sentences.hold("Promise 20", "whether the greatest one is meant; otherwise the least", SpanBoundaries::mostOrLeast);
        Sentences.hold("Promise 20", "Returns the first time from the first to the last one at which it is;",
            SpanBoundaries::firstOfTheBest);
        Sentences.hold("Promise 20", "-1 if it floats at all these times.", SpanBoundaries::floatsAtAllTimes);
        Sentences.holdNoSuchNode("Promise 20", (x, node) -> x.probe(node, 0, 999, true));
        Sentences.holdNoSuchNode("Promise 20", (x, node) -> x.probe(node, 0, 0, false));
        Sentences.hold("Promise 20", "Throws `IllegalArgumentException` if from or to is not 0 to 999, or to is less than from",
            SpanBoundaries::spansRefused);
    }

    private static void holdCompare() {
        Sentences.hold("Promise 21", "a numerator, -500 to 500", SpanBoundaries::numerators);
        Sentences.hold("Promise 21", "a denominator, 1 to 500", SpanBoundaries::denominators);
        Sentences.hold("Promise 21", "Returns -1, 0 or 1, if its potential is less than, equal to, or greater than upper / lower.",
            SpanBoundaries::lessEqualGreater);
        Sentences.holdNoSuchNode("Promise 21", (x, node) -> x.compare(node, 0, 0, 1));
        Sentences.holdNoSuchTime("Promise 21", (x, time) -> x.compare(0, time, 0, 1));
        Sentences.hold("Promise 21", "Throws `IllegalArgumentException` if time is not 0 to 999, or upper or lower is not as told",
            SpanBoundaries::fractionsRefused);
        Sentences.hold("Promise 21", "Throws `IllegalStateException` if it floats",
            () -> FractionBoundaries.dueWhileGrounded((x, node, time) -> x.compare(node, time, 0, 1)));
    }

    private static void holdDigest() {
        Sentences.hold("Promise 23", "A number d starts with 409;", SpanBoundaries::digestOfNothing);
        Sentences.hold("Promise 23", "d becomes d * 31 + x, which wraps around as a 64-bit integer: what count() tells, in its "
            + "order; for each node 1 if it is a rail, else 0;", SpanBoundaries::digestWrapsAround);
        Sentences.hold("Promise 23", "for each element what element() tells, in its order, and the times of its toggles;",
            SpanBoundaries::digestOfElements);
        Sentences.hold("Promise 23", "for the time 0 and for the least time at which any element has a toggle (if there is one)",
            SpanBoundaries::digestTimes);
        Sentences.hold("Promise 23", "for each node -1 if it floats, otherwise the numerator and the denominator of its "
            + "potential.", SpanBoundaries::digestOfPotentials);
    }

    // ---- Promise 19

    private static void firstBehind() {
        NetlistBench x = Benches.withElements(20);
        x.toggle(19, 1);
        x.toggle(0, 999);
        x.toggle(0, 998);
        x.toggle(7, 500);
        x.toggle(8, 500);
        x.toggle(8, 2);
        x.begin(19, false);
        int[] times = {0, 1, 2, 3, 499, 500, 501, 997, 998};
        int[] due = {1, 2, 500, 500, 500, 998, 998, 998, 999};
        for (int i = 0; i < times.length; i++) {
            int time = times[i];
            Check.due(() -> x.nextToggle(time), due[i]);
        }
        x.toggle(7, 500);
        Check.due(() -> x.nextToggle(2), 500);
        x.toggle(8, 500);
        Check.due(() -> x.nextToggle(2), 998);
    }

    private static void noneBehind() {
        Check.due(() -> new NetlistBench().nextToggle(0), -1);
        NetlistBench x = Benches.withElements(20);
        Check.due(() -> x.nextToggle(0), -1);
        x.toggle(3, 1);
        Check.due(() -> x.nextToggle(0), 1);
        Check.due(() -> x.nextToggle(1), -1);
        x.toggle(3, 999);
        Check.due(() -> x.nextToggle(1), 999);
        Check.due(() -> x.nextToggle(998), 999);
        Check.due(() -> x.nextToggle(999), -1);
        x.toggle(3, 999);
        x.toggle(3, 1);
        Check.due(() -> x.nextToggle(0), -1);
    }

    // ---- Promise 20

    /** Node 1 is at 6; at 0 from 100 on; it floats from 200 on, is at 0 from 300 on, and at 6 from 400 on. */
    private static NetlistBench switching() {
        NetlistBench x = Benches.divider();
        x.toggle(0, 100);
        x.toggle(1, 200);
        x.toggle(1, 300);
        x.toggle(0, 400);
        return x;
    }

    private static void mostOrLeast() {
        NetlistBench x = switching();
        Check.due(() -> x.probe(1, 0, 999, true), 0);
        Check.due(() -> x.probe(1, 0, 999, false), 100);
        // All potentials below 0: node 1 is at 3/5 * -20 - 2/5 * 50, and at -50 from 100 on.
        x.rail(0, true, -50);
        x.rail(2, true, -20);
        Check.due(() -> x.probe(1, 50, 999, true), 50);
        Check.due(() -> x.probe(1, 50, 999, false), 100);
        // All above 0: at 3/5 * 20 + 2/5 * 50, and at 50 from 100 on.
        x.rail(0, true, 50);
        x.rail(2, true, 20);
        Check.due(() -> x.probe(1, 50, 999, true), 100);
        Check.due(() -> x.probe(1, 50, 999, false), 50);
        // 1/3 and 2/7, where the numerators and the denominators alone would mislead.
        NetlistBench y = Benches.of(2);
        y.rail(0, true, 0);
        y.addElement(true, 0, 1, 1);
        y.addElement(true, 0, 1, 1);
        y.addElement(false, 0, 1, 3);
        y.addElement(false, 0, 1, 4);
        y.begin(1, false);
        y.begin(3, false);
        y.toggle(1, 9);
        y.toggle(3, 9);
        Check.dueFraction(isUpper -> y.potential(1, 8, isUpper), 1, 3);
        Check.dueFraction(isUpper -> y.potential(1, 9, isUpper), 2, 7);
        Check.due(() -> y.probe(1, 0, 999, true), 0);
        Check.due(() -> y.probe(1, 0, 999, false), 9);
        y.resize(0, -1);
        y.resize(1, -1);
        Check.due(() -> y.probe(1, 0, 999, true), 9);
        Check.due(() -> y.probe(1, 0, 999, false), 0);
    }

    private static void firstOfTheBest() {
        NetlistBench x = switching();
        // What is as great later on does not count, nor does a toggle behind the last time.
        Check.due(() -> x.probe(1, 99, 999, true), 99);
        Check.due(() -> x.probe(1, 100, 999, true), 400);
        Check.due(() -> x.probe(1, 150, 399, true), 150);
        Check.due(() -> x.probe(1, 150, 400, true), 400);
        Check.due(() -> x.probe(1, 150, 400, false), 150);
        Check.due(() -> x.probe(1, 0, 99, false), 0);
        Check.due(() -> x.probe(1, 0, 100, false), 100);
        Check.due(() -> x.probe(1, 300, 999, false), 300);
        Check.due(() -> x.probe(1, 401, 999, true), 401);
        Check.due(() -> x.probe(1, 0, 0, true), 0);
        Check.due(() -> x.probe(1, 0, 0, false), 0);
        Check.due(() -> x.probe(1, 999, 999, true), 999);
        Check.due(() -> x.probe(1, 998, 999, false), 998);
        Check.due(() -> x.probe(2, 123, 999, true), 123);
        Check.due(() -> x.probe(2, 123, 999, false), 123);
        x.toggle(0, 999);
        Check.due(() -> x.probe(1, 400, 998, false), 400);
        Check.due(() -> x.probe(1, 400, 999, false), 999);
        x.toggle(0, 1);
        Check.due(() -> x.probe(1, 0, 0, false), 0);
        Check.due(() -> x.probe(1, 0, 1, false), 1);
        hundredAndTwentyTimes();
    }

    /** As many toggles as there can be, each at another time: sources 1 to 19 go off one by one, and on, three times. */
    private static void hundredAndTwentyTimes() {
        NetlistBench y = Benches.of(2);
        y.rail(0, true, 0);
        for (int i = 0; i < 20; i++) {
            y.addElement(i > 0, 0, 1, i == 0 ? 1 : 1 - i % 2 * 2);
            for (int k = 0; k < 6; k++) {
                y.toggle(i, i == 0 ? 1 + k : 100 + 40 * k + i);
            }
        }
        y.resize(19, -99);
        // Node 1 is at -99, or at -98 beside an odd number of the others, while source 19 is on; else at 0 or -1.
        Check.due(() -> y.probe(1, 0, 118, false), 0);
        Check.due(() -> y.probe(1, 7, 118, true), 101);
        Check.due(() -> y.probe(1, 7, 999, true), 119);
        Check.due(() -> y.probe(1, 119, 999, false), 159);
        Check.due(() -> y.probe(1, 119, 158, false), 141);
        Check.due(() -> y.probe(1, 319, 999, true), 319);
        Check.due(() -> y.probe(1, 300, 318, false), 301);
    }

    private static void floatsAtAllTimes() {
        NetlistBench x = switching();
        for (boolean isMost : new boolean[] {true, false}) {
            Check.due(() -> x.probe(1, 200, 299, isMost), -1);
            Check.due(() -> x.probe(1, 200, 200, isMost), -1);
            Check.due(() -> x.probe(1, 299, 299, isMost), -1);
            Check.due(() -> x.probe(1, 200, 300, isMost), 300);
            Check.due(() -> x.probe(1, 199, 299, isMost), 199);
            Check.due(() -> x.probe(1, 200, 999, isMost), isMost ? 400 : 300);
            NetlistBench none = Benches.row(8, 1);
            none.addElement(true, 0, 7, 9);
            Check.due(() -> none.probe(7, 0, 999, isMost), -1);
            none.toggle(3, 500);
            Check.due(() -> none.probe(7, 0, 999, isMost), -1);
            none.begin(3, false);
            none.rail(0, true, -5);
            Check.due(() -> none.probe(7, 0, 499, isMost), -1);
            Check.due(() -> none.probe(7, 0, 999, isMost), 500);
        }
    }

    private static void spansRefused() {
        NetlistBench x = Benches.divider();
        for (boolean isMost : new boolean[] {true, false}) {
            for (int time : Benches.NO_TIMES) {
                Check.due(() -> x.probe(1, time, 999, isMost), ARGUMENT);
                Check.due(() -> x.probe(1, 0, time, isMost), ARGUMENT);
                Check.due(() -> x.probe(1, time, time, isMost), ARGUMENT);
            }
            Check.due(() -> x.probe(1, 1, 0, isMost), ARGUMENT);
            Check.due(() -> x.probe(1, 999, 998, isMost), ARGUMENT);
            Check.due(() -> x.probe(1, 999, 0, isMost), ARGUMENT);
            Check.due(() -> x.probe(1, 998, 999, isMost), 998);
            Check.due(() -> x.probe(1, 500, 500, isMost), 500);
        }
    }

    // ---- Promise 21

    private static void numerators() {
        NetlistBench x = Benches.of(1);
        x.rail(0, true, 1);
        Check.due(() -> x.compare(0, 0, 500, 500), 0);
        Check.due(() -> x.compare(0, 0, 500, 1), -1);
        Check.due(() -> x.compare(0, 0, 500, 499), -1);
        Check.due(() -> x.compare(0, 0, 499, 500), 1);
        x.rail(0, true, -1);
        Check.due(() -> x.compare(0, 999, -500, 500), 0);
        Check.due(() -> x.compare(0, 999, -500, 1), 1);
        Check.due(() -> x.compare(0, 999, -500, 499), 1);
        Check.due(() -> x.compare(0, 999, -499, 500), -1);
    }

    private static void denominators() {
        NetlistBench x = Benches.of(1);
        x.rail(0, true, 0);
        Check.due(() -> x.compare(0, 0, 0, 1), 0);
        Check.due(() -> x.compare(0, 0, 0, 500), 0);
        Check.due(() -> x.compare(0, 0, 1, 500), -1);
        Check.due(() -> x.compare(0, 0, -1, 500), 1);
        Check.due(() -> x.compare(0, 0, 1, 1), -1);
        Check.due(() -> x.compare(0, 0, -1, 1), 1);
        x.rail(0, true, 99);
        Check.due(() -> x.compare(0, 0, 99, 1), 0);
        Check.due(() -> x.compare(0, 0, 495, 5), 0);
        Check.due(() -> x.compare(0, 0, 496, 5), -1);
        Check.due(() -> x.compare(0, 0, 494, 5), 1);
    }

    private static void lessEqualGreater() {
        NetlistBench x = Benches.divider();
        x.addElement(true, 1, 0, 33);
        // Node 1 is at -3/5.
        Check.due(() -> x.compare(1, 0, -3, 5), 0);
        Check.due(() -> x.compare(1, 0, -300, 500), 0);
        Check.due(() -> x.compare(1, 0, -301, 500), 1);
        Check.due(() -> x.compare(1, 0, -299, 500), -1);
        Check.due(() -> x.compare(1, 0, -1, 1), 1);
        Check.due(() -> x.compare(1, 0, 0, 1), -1);
        Check.due(() -> x.compare(1, 0, -1, 2), -1);
        Check.due(() -> x.compare(1, 0, -2, 3), 1);
        Check.due(() -> x.compare(1, 0, 3, 5), -1);
        x.toggle(0, 1);
        // From 1 on it is at -33/2.
        Check.due(() -> x.compare(1, 1, -33, 2), 0);
        Check.due(() -> x.compare(1, 1, -17, 1), 1);
        Check.due(() -> x.compare(1, 1, -16, 1), -1);
        Check.due(() -> x.compare(1, 999, -500, 30), 1);
        // 1 + 1/17, and fractions close to it.
        NetlistBench y = Benches.of(2);
        y.rail(0, true, 1);
        y.addElement(false, 0, 1, 8);
        y.addElement(false, 0, 1, 9);
        y.addElement(true, 0, 1, 1);
        Check.dueFraction(isUpper -> y.potential(1, 0, isUpper), 18, 17);
        Check.due(() -> y.compare(1, 0, 18, 17), 0);
        Check.due(() -> y.compare(1, 0, 486, 459), 0);
        Check.due(() -> y.compare(1, 0, 487, 460), 1);
        Check.due(() -> y.compare(1, 0, 485, 458), -1);
        Check.due(() -> y.compare(1, 0, 500, 472), -1);
        Check.due(() -> y.compare(1, 0, 500, 473), 1);
    }

    private static void fractionsRefused() {
        NetlistBench x = Benches.divider();
        for (int node : new int[] {0, 1}) {
            for (int upper : new int[] {-501, 501, 1000, Integer.MIN_VALUE, Integer.MAX_VALUE}) {
                Check.due(() -> x.compare(node, 0, upper, 1), ARGUMENT);
                Check.due(() -> x.compare(node, 999, upper, 500), ARGUMENT);
            }
            for (int lower : new int[] {0, -1, -500, 501, 1000, Integer.MIN_VALUE, Integer.MAX_VALUE}) {
                Check.due(() -> x.compare(node, 0, 0, lower), ARGUMENT);
                Check.due(() -> x.compare(node, 999, 500, lower), ARGUMENT);
            }
            for (int time : Benches.NO_TIMES) {
                Check.due(() -> x.compare(node, time, 0, 1), ARGUMENT);
                Check.due(() -> x.compare(node, time, 501, 0), ARGUMENT);
            }
            for (int upper : new int[] {-500, 500}) {
                for (int lower : new int[] {1, 500}) {
                    Check.dueOther(upper + " / " + lower, () -> x.compare(node, 0, upper, lower), ARGUMENT);
                }
            }
        }
    }

    // ---- Promise 22

    private static void differentPotentials() {
        NetlistBench x = Benches.of(8);
        Check.due(() -> new NetlistBench().levels(999), 0);
        Check.due(() -> x.levels(0), 0);
        for (int node = 0; node < 8; node++) {
            int told = node;
            x.rail(told, true, 33 * (told % 7) - 99);
            Check.due(() -> x.levels(0), Math.min(told + 1, 7));
        }
        x.rail(7, true, 98);
        Check.due(() -> x.levels(0), 8);
        for (int node = 0; node < 8; node++) {
            x.rail(node, true, -1);
        }
        Check.due(() -> x.levels(0), 1);
        // The same potential by another fraction in another group: 12/2 beside 30/5.
        NetlistBench y = Benches.divider();
        y.addNode();
        y.addNode();
        y.rail(3, true, 0);
        y.addElement(false, 3, 4, 2);
        y.addElement(true, 3, 4, 12);
        Check.due(() -> y.levels(0), 3);
        y.resize(3, 13);
        Check.due(() -> y.levels(0), 4);
        y.resize(3, 20);
        Check.due(() -> y.levels(0), 3);
        y.toggle(2, 5);
        Check.due(() -> y.levels(4), 3);
        Check.due(() -> y.levels(5), 3);
        y.toggle(0, 6);
        Check.due(() -> y.levels(6), 2);
        y.toggle(1, 7);
        Check.due(() -> y.levels(7), 2);
        y.rail(3, false, 0);
        Check.due(() -> y.levels(0), 3);
        y.rail(2, false, 0);
        Check.due(() -> y.levels(0), 1);
        y.rail(0, false, 0);
        Check.due(() -> y.levels(0), 0);
    }

    // ---- Promise 23

    /** In BigIntegers, of which the last 64 bits are taken at the end. */
    private static long sum(long... numbers) {
        BigInteger d = BigInteger.valueOf(409);
        for (long number : numbers) {
            d = d.multiply(BigInteger.valueOf(31)).add(BigInteger.valueOf(number));
        }
        return d.longValue();
    }

    private static void digestOfNothing() {
        Check.due(() -> new NetlistBench().digest(), 377720089L);
        Check.due(() -> new NetlistBench().digest(), sum(0, 0, 0, 0));
        NetlistBench x = Benches.of(1);
        Check.due(() -> x.digest(), sum(1, 0, 0, 0, 0, -1));
        x.rail(0, true, 0);
        Check.due(() -> x.digest(), sum(1, 0, 1, 0, 1, 0, 1));
    }

    private static void digestWrapsAround() {
        NetlistBench x = Benches.of(8);
        Check.due(() -> x.digest(), sum(8, 0, 0, 0, 0, 0, 0, 0, 0, 0, 0, 0, -1, -1, -1, -1, -1, -1, -1, -1));
        x.rail(0, true, -99);
        x.rail(6, true, 99);
        Check.due(() -> x.digest(),
            sum(8, 0, 2, 0, 1, 0, 0, 0, 0, 0, 1, 0, -99, 1, -1, -1, -1, -1, -1, 99, 1, -1));
        // Nothing of it is kept: the same again, and as before, when the rails are gone.
        Check.due(() -> x.digest(),
            sum(8, 0, 2, 0, 1, 0, 0, 0, 0, 0, 1, 0, -99, 1, -1, -1, -1, -1, -1, 99, 1, -1));
        x.rail(0, false, 5);
        x.rail(6, false, 5);
        Check.due(() -> x.digest(), Benches.of(8).digest());
    }

    private static void digestOfElements() {
        NetlistBench x = Benches.of(2);
        x.addElement(true, 1, 0, -99);
        x.addElement(false, 0, 1, 9);
        Check.due(() -> x.digest(), sum(2, 2, 0, 0, 0, 0, 1, 1, 0, -99, 1, 0, 0, 0, 1, 9, 1, 0, -1, -1));
        x.begin(1, false);
        for (int time : new int[] {999, 3, 5, 4, 2, 700}) {
            x.toggle(0, time);
        }
        x.toggle(1, 998);
        Check.due(() -> x.digest(), sum(2, 2, 0, 7, 0, 0, 1, 1, 0, -99, 1, 6, 2, 3, 4, 5, 700, 999,
            0, 0, 1, 9, 0, 1, 998, -1, -1, -1, -1));
    }

    private static void digestTimes() {
        NetlistBench x = Benches.of(2);
        x.rail(0, true, 7);
        x.addElement(false, 0, 1, 1);
        x.addElement(true, 0, 1, 5);
        Check.due(() -> x.digest(), sum(2, 2, 1, 0, 1, 0, 0, 0, 1, 1, 1, 0, 1, 0, 1, 5, 1, 0, 7, 1, 12, 1));
        x.toggle(1, 999);
        Check.due(() -> x.digest(), sum(2, 2, 1, 1, 1, 0, 0, 0, 1, 1, 1, 0, 1, 0, 1, 5, 1, 1, 999, 7, 1, 12, 1, 7, 1, 7, 1));
        x.toggle(0, 1);
        Check.due(() -> x.digest(),
            sum(2, 2, 1, 2, 1, 0, 0, 0, 1, 1, 1, 1, 1, 1, 0, 1, 5, 1, 1, 999, 7, 1, 12, 1, 7, 1, -1));
        x.toggle(1, 1);
        x.toggle(0, 1);
        x.toggle(0, 2);
        Check.due(() -> x.digest(),
            sum(2, 2, 1, 3, 1, 0, 0, 0, 1, 1, 1, 1, 2, 1, 0, 1, 5, 1, 2, 1, 999, 7, 1, 12, 1, 7, 1, 7, 1));
        x.toggle(0, 2);
        x.toggle(1, 1);
        x.toggle(1, 999);
        Check.due(() -> x.digest(), sum(2, 2, 1, 0, 1, 0, 0, 0, 1, 1, 1, 0, 1, 0, 1, 5, 1, 0, 7, 1, 12, 1));
    }

    private static void digestOfPotentials() {
        NetlistBench x = Benches.divider();
        x.addNode();
        x.addElement(true, 1, 3, 33);
        x.toggle(0, 40);
        x.toggle(1, 41);
        long[] due = {4, 3, 2, 2, 1, 0, 1, 0, 0, 2, 1, 3, 1, 1, 40, 0, 1, 0, 2, 1, 1, 41, 1, 1, 3, 33, 1, 0,
            0, 1, -3, 5, 10, 1, -1, 0, 1, -33, 2, 10, 1, -1};
        Check.due(() -> x.digest(), sum(due));
        x.toggle(1, 39);
        long[] floating = {4, 3, 2, 3, 1, 0, 1, 0, 0, 2, 1, 3, 1, 1, 40, 0, 1, 0, 2, 1, 2, 39, 41, 1, 1, 3, 33, 1, 0,
            0, 1, -3, 5, 10, 1, -1, 0, 1, -1, 1, 10, 1, -1};
        Check.due(() -> x.digest(), sum(floating));
        x.toggle(0, 39);
        floating[12] = 0;
        long[] afloat = {4, 3, 2, 4, 1, 0, 1, 0, 0, 2, 1, 3, 1, 2, 39, 40, 0, 1, 0, 2, 1, 2, 39, 41, 1, 1, 3, 33, 1, 0,
            0, 1, -3, 5, 10, 1, -1, 0, 1, -1, 10, 1, -1};
        Check.due(() -> x.digest(), sum(afloat));
    }
}
