import java.math.BigInteger;
import java.util.Random;
import java.util.TreeSet;

/**
 * Laws that hold for every circuit, looked at through the face alone. No second bench solves anything here, so
 * that a law misread in the slow bench too would show.
 */
public final class LawTest {
    private static final int CIRCUITS = 400;
    private static final int NODES = 8;
    private static final int ELEMENTS = 20;
    private static final int LAST_TIME = 40;
    private static final double NEAR = 1e-9;

    private final Random random;
    private final boolean[] isRail = new boolean[NODES];
    private final int[] railPotentials = new int[NODES];
    private final int[][] elements = new int[ELEMENTS][];
    private final int[][] toggles = new int[ELEMENTS][];
    private final boolean[] begins = new boolean[ELEMENTS];

    /** An exact number: what the face tells as numerator and denominator. */
    private record Exact(BigInteger upper, BigInteger lower) {
        static final Exact ZERO = of(0, 1);

        static Exact of(long upper, long lower) {
            return new Exact(BigInteger.valueOf(upper), BigInteger.valueOf(lower));
        }

        Exact plus(Exact other) {
            return new Exact(upper.multiply(other.lower).add(other.upper.multiply(lower)), lower.multiply(other.lower));
        }

        Exact times(long factor) {
            return new Exact(upper.multiply(BigInteger.valueOf(factor)), lower);
        }

        Exact minus(Exact other) {
            return plus(other.times(-1));
        }

        int sign() {
            return upper.signum();
        }

        double near() {
            return upper.doubleValue() / lower.doubleValue();
        }
    }

    private LawTest(int seed) {
        random = new Random(seed);
        double railShare = 0.1 + 0.1 * random.nextInt(3);
        int sources = random.nextInt(8);
        double offShare = 0.2 * random.nextInt(3);
        for (int node = 0; node < NODES; node++) {
            isRail[node] = random.nextDouble() < railShare;
            railPotentials[node] = random.nextInt(199) - 99;
        }
        for (int i = 0; i < ELEMENTS; i++) {
            boolean isSource = i < sources;
            int a = random.nextInt(NODES);
            int b = (a + 1 + random.nextInt(NODES - 1)) % NODES;
            int size = isSource ? random.nextInt(199) - 99 : 1 + random.nextInt(9);
            elements[i] = new int[] {isSource ? 1 : 0, a, b, size};
            begins[i] = random.nextDouble() >= offShare;
            toggles[i] = random.ints(random.nextInt(4), 1, LAST_TIME).distinct().toArray();
        }
    }

    public static void main(String[] args) {
        for (int seed = 0; seed < CIRCUITS; seed++) {
            Check.under("seed " + seed + ": ");
            LawTest circuit = new LawTest(seed);
            int time = circuit.random.nextInt(LAST_TIME + 1);
            circuit.groupsAreShared(time);
            circuit.currentsAddUp(time);
            circuit.conductorsKeepOhm(time);
            circuit.resistancesAddUp(time);
            circuit.resistanceIsWhatACurrentOfOneShows(time);
            circuit.powerIsWhatIsBroughtIn(time);
            circuit.levelsAreDifferentPotentials(time);
            circuit.probeFindsTheFirstExtreme(circuit.random.nextInt(NODES));
        }
        Check.end();
    }

    /** At most 8 + 8 + 20 + 20 + 60 calls. */
    private NetlistBench made() {
        NetlistBench x = Benches.of(NODES);
        for (int node = 0; node < NODES; node++) {
            if (isRail[node]) {
                x.rail(node, true, railPotentials[node]);
            }
        }
        for (int i = 0; i < ELEMENTS; i++) {
            x.addElement(elements[i][0] == 1, elements[i][1], elements[i][2], elements[i][3]);
            x.begin(i, begins[i]);
            for (int time : toggles[i]) {
                x.toggle(i, time);
            }
        }
        return x;
    }

    private boolean runs(int element, int time) {
        boolean runs = begins[element];
        for (int toggle : toggles[element]) {
            runs ^= toggle <= time;
        }
        return runs;
    }

    private boolean conducts(int element, int time) {
        return elements[element][0] == 0 && runs(element, time);
    }

    private static void due(String what, Object got, Object want) {
        Check.due(what, String.valueOf(got), String.valueOf(want));
    }

    /** A fraction of the face, in lowest terms as it has to be. */
    private static Exact exact(String what, Check.Part call) {
        Exact told = Exact.of((Long) call.answer(true), (Long) call.answer(false));
        due(what + ", denominator above 0", told.lower.signum(), 1);
        due(what + ", common divisor", told.upper.gcd(told.lower), 1);
        return told;
    }

    private static Exact potential(NetlistBench x, int node, int time) {
        return exact("potential of " + node, isUpper -> x.potential(node, time, isUpper));
    }

    private static Exact current(NetlistBench x, int element, int time) {
        return exact("current of " + element, isUpper -> x.current(element, time, isUpper));
    }

    // ---- the laws

    private void groupsAreShared(int time) {
        NetlistBench x = made();
        int[] sets = new int[NODES];
        int rails = 0;
        for (int node = 0; node < NODES; node++) {
            sets[node] = x.together(node, time);
            rails |= isRail[node] ? 1 << node : 0;
            due("with itself", sets[node] >> node & 1, 1);
        }
        for (int node = 0; node < NODES; node++) {
            due("floats " + node, x.floats(node, time), (sets[node] & rails) == 0);
            for (int other = 0; other < NODES; other++) {
                boolean isOneSet = sets[node] == sets[other];
                due(node + " with " + other, (sets[node] >> other & 1) == 1, isOneSet);
                due(node + " apart from " + other, (sets[node] & sets[other]) == 0, !isOneSet);
            }
        }
        for (int i = 0; i < ELEMENTS; i++) {
            if (conducts(i, time)) {
                due("ends of " + i, sets[elements[i][1]], sets[elements[i][2]]);
            }
        }
    }

    private void currentsAddUp(int time) {
        NetlistBench x = made();
        Exact[] into = new Exact[NODES];
        java.util.Arrays.fill(into, Exact.ZERO);
        for (int i = 0; i < ELEMENTS; i++) {
            int a = elements[i][1];
            int b = elements[i][2];
            if (!conducts(i, time) || !x.floats(a, time)) {
                Exact current = current(x, i, time);
                into[a] = into[a].minus(current);
                into[b] = into[b].plus(current);
            }
        }
        for (int node = 0; node < NODES; node++) {
            int told = node;
            if (isRail[node]) {
                Exact feed = exact("feed of " + node, isUpper -> x.feed(told, time, isUpper));
                due("into rail " + node, into[node].plus(feed).sign(), 0);
            } else if (!x.floats(node, time)) {
                due("into node " + node, into[node].sign(), 0);
            }
        }
    }

    private void conductorsKeepOhm(int time) {
        NetlistBench x = made();
        for (int node = 0; node < NODES; node++) {
            if (isRail[node]) {
                due("rail " + node, potential(x, node, time), Exact.of(railPotentials[node], 1));
            }
        }
        for (int i = 0; i < ELEMENTS; i++) {
            int told = i;
            if (!runs(i, time)) {
                due("off: " + i, current(x, i, time), Exact.ZERO);
            } else if (!conducts(i, time)) {
                due("source " + i, current(x, i, time), Exact.of(elements[i][3], 1));
            } else if (x.floats(elements[i][1], time)) {
                due("in the air: " + i, Check.outcome(() -> x.current(told, time, true)), Check.STATE);
            } else {
                Exact u = potential(x, elements[i][1], time).minus(potential(x, elements[i][2], time));
                due("conductor " + i, current(x, i, time).minus(u.times(elements[i][3])).sign(), 0);
            }
        }
    }

    /** Foster's law: conductance times resistance over all conductors is the nodes less the groups. */
    private void resistancesAddUp(int time) {
        NetlistBench x = made();
        TreeSet<Integer> groups = new TreeSet<>();
        for (int node = 0; node < NODES; node++) {
            groups.add(x.together(node, time));
        }
        Exact sum = Exact.ZERO;
        for (int i = 0; i < ELEMENTS; i++) {
            if (conducts(i, time)) {
                int a = elements[i][1];
                int b = elements[i][2];
                Exact there = exact("resistance", isUpper -> x.resistance(a, b, time, isUpper));
                Exact back = exact("resistance", isUpper -> x.resistance(b, a, time, isUpper));
                due("resistance there and back", there, back);
                sum = sum.plus(there.times(elements[i][3]));
            }
        }
        due("Foster's sum", sum.minus(Exact.of(NODES - groups.size(), 1)).sign(), 0);
    }

    /** The document's own words on resistance, done with a source of 1 and a rail at 0. */
    private void resistanceIsWhatACurrentOfOneShows(int time) {
        int a = random.nextInt(NODES);
        int b = (a + 1 + random.nextInt(NODES - 1)) % NODES;
        NetlistBench x = made();
        NetlistBench y = Benches.of(NODES);
        y.rail(b, true, 0);
        for (int i = 0; i < ELEMENTS; i++) {
            if (conducts(i, time)) {
                y.addElement(false, elements[i][1], elements[i][2], elements[i][3]);
            }
        }
        int conductors = y.count(1);
        if (conductors < ELEMENTS) {
            y.addElement(true, b, a, 1);
        }
        if ((x.together(a, time) >> b & 1) == 0) {
            due("apart", Check.outcome(() -> x.resistance(a, b, time, true)), Check.STATE);
        } else if (conductors < ELEMENTS) {
            due("resistance", exact("resistance", isUpper -> x.resistance(a, b, time, isUpper)), potential(y, a, 0));
        }
    }

    /** Tellegen's law: what conductors take, rails and sources bring. */
    private void powerIsWhatIsBroughtIn(int time) {
        NetlistBench x = made();
        double brought = 0;
        double widest = 1;
        for (int node = 0; node < NODES; node++) {
            if (isRail[node]) {
                int told = node;
                double feed = exact("feed", isUpper -> x.feed(told, time, isUpper)).near();
                brought += railPotentials[node] * feed;
                widest += Math.abs(railPotentials[node] * feed);
            }
        }
        for (int i = 0; i < ELEMENTS; i++) {
            for (int end = 1; end <= 2 && elements[i][0] == 1 && runs(i, time); end++) {
                if (!x.floats(elements[i][end], time)) {
                    double part = potential(x, elements[i][end], time).near() * elements[i][3];
                    brought += end == 1 ? -part : part;
                    widest += Math.abs(part);
                }
            }
        }
        double power = x.power(time);
        due("power " + power + " for " + brought, Math.abs(power - brought) <= NEAR * widest, true);
    }

    private void levelsAreDifferentPotentials(int time) {
        NetlistBench x = made();
        TreeSet<String> different = new TreeSet<>();
        for (int node = 0; node < NODES; node++) {
            if (!x.floats(node, time)) {
                different.add(potential(x, node, time).toString());
            }
        }
        due("levels", x.levels(time), different.size());
    }

    private void probeFindsTheFirstExtreme(int node) {
        NetlistBench x = made();
        int from = random.nextInt(LAST_TIME);
        int to = from + random.nextInt(LAST_TIME - from + 1);
        int most = -1;
        int least = -1;
        Exact greatest = Exact.ZERO;
        Exact smallest = Exact.ZERO;
        for (int time = from; time <= to; time++) {
            if (!x.floats(node, time)) {
                Exact here = potential(x, node, time);
                if (most < 0 || here.minus(greatest).sign() > 0) {
                    most = time;
                    greatest = here;
                }
                if (least < 0 || here.minus(smallest).sign() < 0) {
                    least = time;
                    smallest = here;
                }
            }
        }
        due("greatest from " + from + " to " + to, x.probe(node, from, to, true), most);
        due("least from " + from + " to " + to, x.probe(node, from, to, false), least);
    }
}
