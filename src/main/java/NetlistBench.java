import java.util.ArrayList;

/** A bench for circuits of conductors, current sources and rails. */
public final class NetlistBench {
    private static final int MOST_NODES = 8;
    private static final int MOST_ELEMENTS = 20;
    private static final int MOST_TOGGLES = 6;
    /** A node has a potential only beside a rail, so at least one of the nodes is not sought. */
    private static final int MOST_UNKNOWNS = MOST_NODES - 1;
    private static final int LAST_TIME = 999;
    private static final int MOST_POTENTIAL = 99;
    private static final int MOST_CURRENT = 99;
    private static final int MOST_CONDUCTANCE = 9;
    private static final int MOST_COMPARED = 500;
    private static final int COUNTS = 4;
    private static final int TRAITS = 6;
    /** Euclid's algorithm needs fewer than 100 steps for any two longs. */
    private static final int MOST_EUCLID_STEPS = 200;
    private static final int DIGEST_START = 409;
    private static final int DIGEST_FACTOR = 31;

    private final ArrayList<Node> nodes = new ArrayList<Node>();
    private final ArrayList<Element> elements = new ArrayList<Element>();
    /** For each node the set of the nodes that hang together with it, at the time looked at last. */
    private final int[] groups = new int[MOST_NODES];
    private final Equations equations = new Equations();

    public NetlistBench() {
    }

    // ---- circuits

    public int addNode() throws IllegalStateException {
        int number = nodes.size();
        if (number >= MOST_NODES) {
            throw new IllegalStateException("there are 8 nodes");
        }
        nodes.add(new Node());
        return number;
    }

    public boolean rail(int node, boolean isRail, int potential) throws IndexOutOfBoundsException, IllegalArgumentException {
        checkNode(node);
        if (isRail && (potential < -MOST_POTENTIAL || potential > MOST_POTENTIAL)) {
            throw new IllegalArgumentException("the potential of a rail is -99 to 99");
        }
        Node changed = nodes.get(node);
        boolean was = changed.isRail;
        changed.isRail = isRail;
        changed.railPotential = isRail ? potential : 0;
        return was;
    }

    public int addElement(boolean isSource, int a, int b, int size) throws IndexOutOfBoundsException, IllegalArgumentException, IllegalStateException {
        checkNode(a);
        checkNode(b);
        if (a == b) {
            throw new IllegalArgumentException("an element goes to another node");
        }
        checkSize(isSource, size);
        int number = elements.size();
        if (number >= MOST_ELEMENTS) {
            throw new IllegalStateException("there are 20 elements");
        }
        elements.add(new Element(isSource, a, b, size));
        return number;
    }

    public int resize(int element, int size) throws IndexOutOfBoundsException, IllegalArgumentException {
        checkElement(element);
        Element changed = elements.get(element);
        checkSize(changed.isSource, size);
        int before = changed.size;
        changed.size = size;
        return before;
    }

    public boolean begin(int element, boolean isOn) throws IndexOutOfBoundsException {
        checkElement(element);
        Element changed = elements.get(element);
        boolean was = changed.startsOn;
        changed.startsOn = isOn;
        return was;
    }

    public int toggle(int element, int time) throws IndexOutOfBoundsException, IllegalArgumentException, IllegalStateException {
        checkElement(element);
        if (time < 1 || time > LAST_TIME) {
            throw new IllegalArgumentException("the time of a toggle is 1 to 999");
        }
        Element changed = elements.get(element);
        if (changed.hasToggle(time)) {
            changed.dropToggle(time);
        } else if (changed.toggles < MOST_TOGGLES) {
            changed.putToggle(time);
        } else {
            throw new IllegalStateException("the element has 6 toggles");
        }
        return changed.toggles;
    }

    public int count(int what) throws IndexOutOfBoundsException {
        if (what < 0 || what >= COUNTS) {
            throw new IndexOutOfBoundsException("what is counted is 0 to 3");
        }
        return countOf(what);
    }

    public int element(int element, int what) throws IndexOutOfBoundsException {
        checkElement(element);
        if (what < 0 || what >= TRAITS) {
            throw new IndexOutOfBoundsException("what is told of an element is 0 to 5");
        }
        return elements.get(element).trait(what);
    }

    public int toggleAt(int element, int index) throws IndexOutOfBoundsException {
        checkElement(element);
        Element told = elements.get(element);
        if (index < 0 || index >= told.toggles) {
            throw new IndexOutOfBoundsException("there is no such toggle");
        }
        return told.toggleTime(index);
    }

    // ---- at a time

    public boolean isOn(int element, int time) throws IndexOutOfBoundsException, IllegalArgumentException {
        checkElement(element);
        checkTime(time);
        return elements.get(element).runsAt(time);
    }

    public int together(int node, int time) throws IndexOutOfBoundsException, IllegalArgumentException {
        checkNode(node);
        checkTime(time);
        group(time);
        return groups[node];
    }

    public boolean floats(int node, int time) throws IndexOutOfBoundsException, IllegalArgumentException {
        checkNode(node);
        checkTime(time);
        group(time);
        return isAfloat(node);
    }

    public long potential(int node, int time, boolean isUpper) throws IndexOutOfBoundsException, IllegalArgumentException, IllegalStateException {
        checkNode(node);
        checkTime(time);
        settle(time);
        checkGrounded(node);
        return partOf(equations.upper(node), equations.lower(), isUpper);
    }

    public long current(int element, int time, boolean isUpper) throws IndexOutOfBoundsException, IllegalArgumentException, IllegalStateException {
        checkElement(element);
        checkTime(time);
        Element told = elements.get(element);
        if (!told.runsAt(time)) {
            return partOf(0, 1, isUpper);
        }
        if (told.isSource) {
            return partOf(told.size, 1, isUpper);
        }
        settle(time);
        checkGrounded(told.a);
        return partOf(flowOut(told, told.a), equations.lower(), isUpper);
    }

    public long feed(int node, int time, boolean isUpper) throws IndexOutOfBoundsException, IllegalArgumentException, IllegalStateException {
        checkNode(node);
        checkTime(time);
        if (!nodes.get(node).isRail) {
            throw new IllegalStateException("the node is no rail");
        }
        settle(time);
        long upper = 0;
        for (int i = 0; i < elements.size(); i++) {
            Element element = elements.get(i);
            if (element.runsAt(time)) {
                upper += flowOut(element, node);
            }
        }
        return partOf(upper, equations.lower(), isUpper);
    }

    public long resistance(int a, int b, int time, boolean isUpper) throws IndexOutOfBoundsException, IllegalArgumentException, IllegalStateException {
        checkNode(a);
        checkNode(b);
        checkTime(time);
        group(time);
        if (!contains(groups[a], b)) {
            throw new IllegalStateException("the nodes do not hang together");
        }
        drive(a, b, time);
        return partOf(equations.upper(a), equations.lower(), isUpper);
    }

    public double power(int time) throws IllegalArgumentException {
        checkTime(time);
        settle(time);
        double sum = 0.0;
        for (int i = 0; i < elements.size(); i++) {
            Element element = elements.get(i);
            if (!element.isSource && element.runsAt(time) && !isAfloat(element.a)) {
                double u = quotientAt(element.a) - quotientAt(element.b);
                sum = sum + (double) element.size * u * u;
            }
        }
        return sum;
    }

    // ---- over a span

    public int nextToggle(int time) throws IllegalArgumentException {
        checkTime(time);
        return firstToggleBehind(time);
    }

    public int probe(int node, int from, int to, boolean isMost) throws IndexOutOfBoundsException, IllegalArgumentException {
        checkNode(node);
        checkTime(from);
        checkTime(to);
        if (to < from) {
            throw new IllegalArgumentException("the last time is before the first one");
        }
        int best = -1;
        long bestUpper = 0;
        long bestLower = 1;
        int time = from;
        // Potentials change at toggles only, and the first of equal times wins.
        for (int step = 0; step <= LAST_TIME && time >= 0 && time <= to; step++) {
            settle(time);
            if (!isAfloat(node)) {
                long upper = equations.upper(node);
                long lower = equations.lower();
                int order = compareFractions(upper, lower, bestUpper, bestLower);
                if (best < 0 || (isMost ? order > 0 : order < 0)) {
                    best = time;
                    bestUpper = upper;
                    bestLower = lower;
                }
            }
            time = firstToggleBehind(time);
        }
        return best;
    }

    public int compare(int node, int time, int upper, int lower) throws IndexOutOfBoundsException, IllegalArgumentException, IllegalStateException {
        checkNode(node);
        checkTime(time);
        if (upper < -MOST_COMPARED || upper > MOST_COMPARED || lower < 1 || lower > MOST_COMPARED) {
            throw new IllegalArgumentException("the fraction is -500 to 500 by 1 to 500");
        }
        settle(time);
        checkGrounded(node);
        return compareFractions(equations.upper(node), equations.lower(), upper, lower);
    }

    public int levels(int time) throws IllegalArgumentException {
        checkTime(time);
        settle(time);
        int levels = 0;
        for (int node = 0; node < nodes.size(); node++) {
            if (!isAfloat(node) && isFirstOfLevel(node)) {
                levels++;
            }
        }
        return levels;
    }

    public long digest() {
        long d = digestCircuit(DIGEST_START);
        d = digestPotentials(d, 0);
        int first = firstToggleBehind(0);
        return first < 0 ? d : digestPotentials(d, first);
    }

    // ---- what is refused

    private void checkNode(int node) throws IndexOutOfBoundsException {
        if (node < 0 || node >= nodes.size()) {
            throw new IndexOutOfBoundsException("there is no such node");
        }
    }

    private void checkElement(int element) throws IndexOutOfBoundsException {
        if (element < 0 || element >= elements.size()) {
            throw new IndexOutOfBoundsException("there is no such element");
        }
    }

    private static void checkTime(int time) throws IllegalArgumentException {
        if (time < 0 || time > LAST_TIME) {
            throw new IllegalArgumentException("a time is 0 to 999");
        }
    }

    private static void checkSize(boolean isSource, int size) throws IllegalArgumentException {
        int least = isSource ? -MOST_CURRENT : 1;
        int most = isSource ? MOST_CURRENT : MOST_CONDUCTANCE;
        if (size < least || size > most) {
            throw new IllegalArgumentException("the size is not one of such an element");
        }
    }

    /** Goes by the groups of the time looked at last. */
    private void checkGrounded(int node) throws IllegalStateException {
        if (isAfloat(node)) {
            throw new IllegalStateException("the node floats");
        }
    }

    // ---- what hangs together

    /** Looks at a time: finds which nodes hang together then. */
    private void group(int time) {
        for (int node = 0; node < MOST_NODES; node++) {
            groups[node] = 1 << node;
        }
        for (int i = 0; i < elements.size(); i++) {
            Element element = elements.get(i);
            if (!element.isSource && element.runsAt(time)) {
                join(groups[element.a] | groups[element.b]);
            }
        }
    }

    private void join(int set) {
        for (int node = 0; node < MOST_NODES; node++) {
            if (contains(set, node)) {
                groups[node] = set;
            }
        }
    }

    private boolean isAfloat(int node) {
        for (int other = 0; other < nodes.size(); other++) {
            if (nodes.get(other).isRail && contains(groups[node], other)) {
                return false;
            }
        }
        return true;
    }

    private static boolean contains(int set, int node) {
        return (set >> node & 1) != 0;
    }

    // ---- potentials

    /** Looks at a time: finds the groups and the potentials of all nodes that do not float. */
    private void settle(int time) {
        group(time);
        equations.clear();
        for (int i = 0; i < nodes.size(); i++) {
            Node node = nodes.get(i);
            if (node.isRail) {
                equations.fix(i, node.railPotential);
            } else if (!isAfloat(i)) {
                equations.seek(i);
            }
        }
        for (int i = 0; i < elements.size(); i++) {
            Element element = elements.get(i);
            if (element.isSource && element.runsAt(time)) {
                equations.bring(element.a, -element.size);
                equations.bring(element.b, element.size);
            }
        }
        conduct(time);
        equations.solve();
    }

    /** Finds the potentials over that of b, if a current of 1 goes from a to b through conductors alone. */
    private void drive(int a, int b, int time) {
        equations.clear();
        for (int node = 0; node < nodes.size(); node++) {
            if (node != b && contains(groups[b], node)) {
                equations.seek(node);
            }
        }
        equations.bring(a, 1);
        conduct(time);
        equations.solve();
    }

    private void conduct(int time) {
        for (int i = 0; i < elements.size(); i++) {
            Element element = elements.get(i);
            if (!element.isSource && element.runsAt(time)) {
                equations.link(element.a, element.b, element.size);
            }
        }
    }

    /** What an element that is on takes out of a node, as a numerator over the common denominator. */
    private long flowOut(Element element, int node) {
        if (node != element.a && node != element.b) {
            return 0;
        }
        long fromAToB = element.isSource
            ? element.size * equations.lower()
            : element.size * (equations.upper(element.a) - equations.upper(element.b));
        return node == element.a ? fromAToB : -fromAToB;
    }

    private double quotientAt(int node) {
        double upper = (double) partOf(equations.upper(node), equations.lower(), true);
        double lower = (double) partOf(equations.upper(node), equations.lower(), false);
        return lower > 0.0 ? upper / lower : 0.0;
    }

    private boolean isFirstOfLevel(int node) {
        for (int other = 0; other < node; other++) {
            if (!isAfloat(other) && equations.upper(other) == equations.upper(node)) {
                return false;
            }
        }
        return true;
    }

    // ---- toggles and checksum

    private int firstToggleBehind(int time) {
        int first = -1;
        for (int i = 0; i < elements.size(); i++) {
            int next = elements.get(i).toggleBehind(time);
            if (next >= 0 && (first < 0 || next < first)) {
                first = next;
            }
        }
        return first;
    }

    private int countOf(int what) {
        switch (what) {
            case 0:
                return nodes.size();
            case 1:
                return elements.size();
            case 2:
                return countRails();
            default:
                return countToggles();
        }
    }

    private int countRails() {
        int rails = 0;
        for (int i = 0; i < nodes.size(); i++) {
            if (nodes.get(i).isRail) {
                rails++;
            }
        }
        return rails;
    }

    private int countToggles() {
        int toggles = 0;
        for (int i = 0; i < elements.size(); i++) {
            toggles += elements.get(i).toggles;
        }
        return toggles;
    }

    private long digestCircuit(long start) {
        long d = start;
        for (int what = 0; what < COUNTS; what++) {
            d = digestOf(d, countOf(what));
        }
        for (int i = 0; i < nodes.size(); i++) {
            d = digestOf(d, nodes.get(i).isRail ? 1 : 0);
        }
        for (int i = 0; i < elements.size(); i++) {
            d = digestElement(d, elements.get(i));
        }
        return d;
    }

    private static long digestElement(long start, Element element) {
        long d = start;
        for (int what = 0; what < TRAITS; what++) {
            d = digestOf(d, element.trait(what));
        }
        for (int index = 0; index < element.toggles; index++) {
            d = digestOf(d, element.toggleTime(index));
        }
        return d;
    }

    private long digestPotentials(long start, int time) {
        settle(time);
        long d = start;
        for (int node = 0; node < nodes.size(); node++) {
            if (isAfloat(node)) {
                d = digestOf(d, -1);
            } else {
                d = digestOf(d, partOf(equations.upper(node), equations.lower(), true));
                d = digestOf(d, partOf(equations.upper(node), equations.lower(), false));
            }
        }
        return d;
    }

    private static long digestOf(long d, long x) {
        return d * DIGEST_FACTOR + x;
    }

    // ---- fractions

    /** The numerator or the denominator of upper / lower in lowest terms; lower is greater than 0. */
    private static long partOf(long upper, long lower, boolean isUpper) {
        long part = isUpper ? upper : lower;
        long divisor = commonDivisor(Math.abs(upper), lower);
        return divisor > 1 ? part / divisor : part;
    }

    private static long commonDivisor(long first, long second) {
        long a = first;
        long b = second;
        for (int step = 0; step < MOST_EUCLID_STEPS && b != 0; step++) {
            long rest = a % b;
            a = b;
            b = rest;
        }
        return a;
    }

    /**
     * Compares upperA / lowerA with upperB / lowerB, the denominators being greater than 0: whole parts
     * first, then the reciprocals of what is left of them, since products would not fit into a long.
     */
    private static int compareFractions(long upperA, long lowerA, long upperB, long lowerB) {
        long a = upperA;
        long underA = lowerA;
        long b = upperB;
        long underB = lowerB;
        int sign = 1;
        for (int step = 0; step < MOST_EUCLID_STEPS && underA != 0 && underB != 0; step++) {
            long wholeA = Math.floorDiv(a, underA);
            long wholeB = Math.floorDiv(b, underB);
            if (wholeA != wholeB) {
                return wholeA > wholeB ? sign : -sign;
            }
            long restA = Math.floorMod(a, underA);
            long restB = Math.floorMod(b, underB);
            a = underA;
            underA = restA;
            b = underB;
            underB = restB;
            sign = -sign;
        }
        // A rest of 0 stands for a reciprocal beyond all numbers.
        if (underA == underB) {
            return 0;
        }
        return underA == 0 ? sign : -sign;
    }

    private static final class Node {
        boolean isRail = false;
        int railPotential = 0;
    }

    private static final class Element {
        final boolean isSource;
        final int a;
        final int b;
        int size;
        boolean startsOn = true;
        int toggles = 0;
        private final int[] times = new int[MOST_TOGGLES];

        Element(boolean isSource, int a, int b, int size) {
            this.isSource = isSource;
            this.a = a;
            this.b = b;
            this.size = size;
        }

        boolean runsAt(int time) {
            return startsOn == (togglesBefore(time + 1) % 2 == 0);
        }

        boolean hasToggle(int time) {
            return togglesBefore(time) < togglesBefore(time + 1);
        }

        int toggleTime(int index) {
            return index >= 0 && index < toggles ? times[index] : -1;
        }

        /** The first toggle's time after the given one; -1 if there is none. */
        int toggleBehind(int time) {
            return toggleTime(togglesBefore(time + 1));
        }

        void putToggle(int time) {
            if (toggles >= MOST_TOGGLES) {
                return;
            }
            int place = togglesBefore(time);
            for (int i = toggles; i > place; i--) {
                times[i] = times[i - 1];
            }
            times[place] = time;
            toggles++;
        }

        /** Drops the toggle at a time at which there is one. */
        void dropToggle(int time) {
            for (int i = togglesBefore(time) + 1; i < toggles; i++) {
                times[i - 1] = times[i];
            }
            toggles--;
        }

        int trait(int what) {
            switch (what) {
                case 0:
                    return isSource ? 1 : 0;
                case 1:
                    return a;
                case 2:
                    return b;
                case 3:
                    return size;
                case 4:
                    return startsOn ? 1 : 0;
                default:
                    return toggles;
            }
        }

        private int togglesBefore(int time) {
            int before = 0;
            for (int i = 0; i < toggles; i++) {
                if (times[i] < time) {
                    before++;
                }
            }
            return before;
        }
    }

    /**
     * The equations for the potentials that are sought: for each such node, what flows out of it through
     * conductors is what is brought into it. Order of use: clear, fix and seek, bring and link, solve; then
     * all potentials are numerators over one common denominator.
     */
    private static final class Equations {
        /** For each node its place among the unknowns; -1 if its potential is known. */
        private final int[] places = new int[MOST_NODES];
        private final long[] known = new long[MOST_NODES];
        /** A row for each unknown: its factors, and behind them what is brought into its node. */
        private final long[][] rows = new long[MOST_UNKNOWNS][MOST_UNKNOWNS + 1];
        /** For each set of k columns the determinant of the first k rows in these columns. */
        private final long[] minors = new long[1 << (MOST_UNKNOWNS + 1)];
        private int unknowns = 0;

        /** Makes the potential of every node known, as 0. */
        void clear() {
            unknowns = 0;
            for (int node = 0; node < MOST_NODES; node++) {
                places[node] = -1;
                known[node] = 0;
            }
            for (int row = 0; row < MOST_UNKNOWNS; row++) {
                for (int column = 0; column <= MOST_UNKNOWNS; column++) {
                    rows[row][column] = 0;
                }
            }
        }

        void fix(int node, long potential) {
            known[node] = potential;
        }

        void seek(int node) {
            if (unknowns < MOST_UNKNOWNS) {
                places[node] = unknowns;
                unknowns++;
            }
        }

        void bring(int node, long current) {
            int row = places[node];
            if (row >= 0) {
                rows[row][unknowns] += current;
            }
        }

        void link(int a, int b, long conductance) {
            linkOneWay(a, b, conductance);
            linkOneWay(b, a, conductance);
        }

        private void linkOneWay(int from, int to, long conductance) {
            int row = places[from];
            if (row < 0) {
                return;
            }
            rows[row][row] += conductance;
            int column = places[to];
            if (column >= 0) {
                rows[row][column] -= conductance;
            } else {
                rows[row][unknowns] += conductance * known[to];
            }
        }

        void solve() {
            int all = allColumns();
            minors[0] = 1;
            for (int columns = 1; columns < all; columns++) {
                minors[columns] = expand(columns);
            }
        }

        /** Expands a determinant by its last row, from its last column on. */
        private long expand(int columns) {
            int row = Integer.bitCount(columns) - 1;
            long sum = 0;
            int sign = 1;
            for (int column = unknowns; column >= 0; column--) {
                if (contains(columns, column)) {
                    sum += sign * rows[row][column] * minors[columns ^ 1 << column];
                    sign = -sign;
                }
            }
            return sum;
        }

        long lower() {
            return minors[allColumns() ^ 1 << unknowns];
        }

        /** By Cramer's rule; what is brought has to be moved from the last column to the unknown's one. */
        long upper(int node) {
            int place = places[node];
            if (place < 0) {
                return known[node] * lower();
            }
            long minor = minors[allColumns() ^ 1 << place];
            return (unknowns - 1 - place) % 2 == 0 ? minor : -minor;
        }

        private int allColumns() {
            return (1 << (unknowns + 1)) - 1;
        }
    }
}
