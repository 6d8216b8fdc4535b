import java.math.BigInteger;
import java.util.ArrayList;
import java.util.List;
import java.util.TreeSet;

/**
 * The same bench in a slow and plain way: toggles in sets, fractions of BigIntegers, elimination instead of
 * determinants, every single time of a span looked at. A refusal is answered as a text, as Check tells it.
 */
final class Oracle {
    private static final int TIMES = 1000;

    private final List<Integer> rails = new ArrayList<>();
    private final List<Part> parts = new ArrayList<>();

    private static final class Part {
        boolean isSource;
        int a;
        int b;
        int size;
        boolean begins = true;
        final TreeSet<Integer> toggles = new TreeSet<>();
    }

    /** A fraction in lowest terms, its denominator greater than 0. */
    record Ratio(BigInteger upper, BigInteger lower) {
        static final Ratio ZERO = of(0);

        static Ratio of(long whole) {
            return new Ratio(BigInteger.valueOf(whole), BigInteger.ONE);
        }

        static Ratio of(BigInteger upper, BigInteger lower) {
            BigInteger divisor = upper.gcd(lower);
            if (lower.signum() < 0) {
                divisor = divisor.negate();
            }
            return new Ratio(upper.divide(divisor), lower.divide(divisor));
        }

        Ratio plus(Ratio other) {
            return of(upper.multiply(other.lower).add(other.upper.multiply(lower)), lower.multiply(other.lower));
        }

        Ratio minus(Ratio other) {
            return plus(other.times(of(-1)));
        }

        Ratio times(Ratio other) {
            return of(upper.multiply(other.upper), lower.multiply(other.lower));
        }

        Ratio over(Ratio other) {
            return of(upper.multiply(other.lower), lower.multiply(other.upper));
        }

        int order(Ratio other) {
            return upper.multiply(other.lower).compareTo(other.upper.multiply(lower));
        }

        long part(boolean isUpper) {
            return (isUpper ? upper : lower).longValueExact();
        }
    }

    // ---- what is refused

    private boolean noNode(int node) {
        return node < 0 || node >= rails.size();
    }

    private boolean noPart(int element) {
        return element < 0 || element >= parts.size();
    }

    private static boolean noTime(int time) {
        return time < 0 || time >= TIMES;
    }

    private static boolean badSize(boolean isSource, int size) {
        return isSource ? Math.abs((long) size) > 99 : size < 1 || size > 9;
    }

    // ---- circuits

    Object addNode() {
        if (rails.size() == 8) {
            return Check.STATE;
        }
        rails.add(null);
        return rails.size() - 1;
    }

    Object rail(int node, boolean isRail, int potential) {
        if (noNode(node)) {
            return Check.INDEX;
        }
        if (isRail && Math.abs((long) potential) > 99) {
            return Check.ARGUMENT;
        }
        return rails.set(node, isRail ? potential : null) != null;
    }

    Object addElement(boolean isSource, int a, int b, int size) {
        if (noNode(a) || noNode(b)) {
            return Check.INDEX;
        }
        if (a == b || badSize(isSource, size)) {
            return Check.ARGUMENT;
        }
        if (parts.size() == 20) {
            return Check.STATE;
        }
        Part part = new Part();
        part.isSource = isSource;
        part.a = a;
        part.b = b;
        part.size = size;
        parts.add(part);
        return parts.size() - 1;
    }

    Object resize(int element, int size) {
        if (noPart(element)) {
            return Check.INDEX;
        }
        Part part = parts.get(element);
        if (badSize(part.isSource, size)) {
            return Check.ARGUMENT;
        }
        int before = part.size;
        part.size = size;
        return before;
    }

    Object begin(int element, boolean isOn) {
        if (noPart(element)) {
            return Check.INDEX;
        }
        boolean before = parts.get(element).begins;
        parts.get(element).begins = isOn;
        return before;
    }

    Object toggle(int element, int time) {
        if (noPart(element)) {
            return Check.INDEX;
        }
        if (noTime(time) || time == 0) {
            return Check.ARGUMENT;
        }
        TreeSet<Integer> toggles = parts.get(element).toggles;
        if (!toggles.remove(time)) {
            if (toggles.size() == 6) {
                return Check.STATE;
            }
            toggles.add(time);
        }
        return toggles.size();
    }

    Object count(int what) {
        switch (what) {
            case 0:
                return rails.size();
            case 1:
                return parts.size();
            case 2:
                return (int) rails.stream().filter(rail -> rail != null).count();
            case 3:
                return parts.stream().mapToInt(part -> part.toggles.size()).sum();
            default:
                return Check.INDEX;
        }
    }

    Object element(int element, int what) {
        if (noPart(element) || what < 0 || what > 5) {
            return Check.INDEX;
        }
        Part part = parts.get(element);
        return new int[] {part.isSource ? 1 : 0, part.a, part.b, part.size, part.begins ? 1 : 0,
            part.toggles.size()}[what];
    }

    Object toggleAt(int element, int index) {
        if (noPart(element) || index < 0 || index >= parts.get(element).toggles.size()) {
            return Check.INDEX;
        }
        return new ArrayList<>(parts.get(element).toggles).get(index);
    }

    // ---- at a time

    Object isOn(int element, int time) {
        return noPart(element) ? Check.INDEX : noTime(time) ? Check.ARGUMENT : (Object) runs(parts.get(element), time);
    }

    Object together(int node, int time) {
        return noNode(node) ? Check.INDEX : noTime(time) ? Check.ARGUMENT : (Object) reach(node, time);
    }

    Object floats(int node, int time) {
        return noNode(node) ? Check.INDEX : noTime(time) ? Check.ARGUMENT : (Object) isLoose(node, time);
    }

    Object potential(int node, int time, boolean isUpper) {
        if (noNode(node)) {
            return Check.INDEX;
        }
        if (noTime(time)) {
            return Check.ARGUMENT;
        }
        return isLoose(node, time) ? Check.STATE : (Object) potentials(time)[node].part(isUpper);
    }

    Object current(int element, int time, boolean isUpper) {
        if (noPart(element)) {
            return Check.INDEX;
        }
        if (noTime(time)) {
            return Check.ARGUMENT;
        }
        Part part = parts.get(element);
        if (runs(part, time) && !part.isSource && isLoose(part.b, time)) {
            return Check.STATE;
        }
        return through(part, potentials(time), time).part(isUpper);
    }

    Object feed(int node, int time, boolean isUpper) {
        if (noNode(node)) {
            return Check.INDEX;
        }
        if (noTime(time)) {
            return Check.ARGUMENT;
        }
        if (rails.get(node) == null) {
            return Check.STATE;
        }
        Ratio[] potentials = potentials(time);
        Ratio missing = Ratio.ZERO;
        for (Part part : parts) {
            if (part.a == node) {
                missing = missing.plus(through(part, potentials, time));
            } else if (part.b == node) {
                missing = missing.minus(through(part, potentials, time));
            }
        }
        return missing.part(isUpper);
    }

    Object resistance(int a, int b, int time, boolean isUpper) {
        if (noNode(a) || noNode(b)) {
            return Check.INDEX;
        }
        if (noTime(time)) {
            return Check.ARGUMENT;
        }
        if ((reach(a, time) >> b & 1) == 0) {
            return Check.STATE;
        }
        if (a == b) {
            return Ratio.ZERO.part(isUpper);
        }
        // Node b at 0 is the only one that is not sought; what hangs elsewhere is left out.
        Ratio[] given = new Ratio[rails.size()];
        given[b] = Ratio.ZERO;
        Ratio[] brought = zeros();
        brought[a] = Ratio.of(1);
        return solved(given, brought, reach(a, time), time)[a].part(isUpper);
    }

    Object power(int time) {
        if (noTime(time)) {
            return Check.ARGUMENT;
        }
        Ratio[] potentials = potentials(time);
        double sum = 0;
        for (Part part : parts) {
            if (!part.isSource && runs(part, time) && potentials[part.a] != null) {
                double u = asDouble(potentials[part.a]) - asDouble(potentials[part.b]);
                sum += part.size * u * u;
            }
        }
        return sum;
    }

    // ---- over a span

    Object nextToggle(int time) {
        if (noTime(time)) {
            return Check.ARGUMENT;
        }
        for (int later = time + 1; later < TIMES; later++) {
            if (switches(later)) {
                return later;
            }
        }
        return -1;
    }

    Object probe(int node, int from, int to, boolean isMost) {
        if (noNode(node)) {
            return Check.INDEX;
        }
        if (noTime(from) || noTime(to) || to < from) {
            return Check.ARGUMENT;
        }
        int best = -1;
        Ratio found = null;
        for (int time = from; time <= to; time++) {
            if (time != from && !switches(time)) {
                continue;
            }
            Ratio here = potentials(time)[node];
            if (here != null && (found == null || here.order(found) * (isMost ? 1 : -1) > 0)) {
                best = time;
                found = here;
            }
        }
        return best;
    }

    Object compare(int node, int time, int upper, int lower) {
        if (noNode(node)) {
            return Check.INDEX;
        }
        if (noTime(time) || Math.abs((long) upper) > 500 || lower < 1 || lower > 500) {
            return Check.ARGUMENT;
        }
        Ratio here = potentials(time)[node];
        return here == null ? Check.STATE : (Object) here.order(Ratio.of(BigInteger.valueOf(upper), BigInteger.valueOf(lower)));
    }

    Object levels(int time) {
        if (noTime(time)) {
            return Check.ARGUMENT;
        }
        List<Ratio> different = new ArrayList<>();
        for (Ratio here : potentials(time)) {
            if (here != null && !different.contains(here)) {
                different.add(here);
            }
        }
        return different.size();
    }

    Object digest() {
        List<Long> told = new ArrayList<>();
        for (int what = 0; what < 4; what++) {
            told.add((long) (int) count(what));
        }
        for (Integer rail : rails) {
            told.add(rail == null ? 0L : 1L);
        }
        for (int i = 0; i < parts.size(); i++) {
            for (int what = 0; what < 6; what++) {
                told.add((long) (int) element(i, what));
            }
            for (int time : parts.get(i).toggles) {
                told.add((long) time);
            }
        }
        tellPotentials(told, 0);
        for (int time = 1; time < TIMES; time++) {
            if (switches(time)) {
                tellPotentials(told, time);
                break;
            }
        }
        long d = 409;
        for (long x : told) {
            d = d * 31 + x;
        }
        return d;
    }

    private void tellPotentials(List<Long> told, int time) {
        for (Ratio here : potentials(time)) {
            if (here == null) {
                told.add(-1L);
            } else {
                told.add(here.part(true));
                told.add(here.part(false));
            }
        }
    }

    // ---- how it is found

    private static boolean runs(Part part, int time) {
        return part.begins ^ part.toggles.headSet(time, true).size() % 2 == 1;
    }

    private boolean switches(int time) {
        return parts.stream().anyMatch(part -> part.toggles.contains(time));
    }

    private int reach(int node, int time) {
        int set = 1 << node;
        for (int round = 0; round < 8; round++) {
            for (Part part : parts) {
                int ends = 1 << part.a | 1 << part.b;
                if (!part.isSource && runs(part, time) && (set & ends) != 0) {
                    set |= ends;
                }
            }
        }
        return set;
    }

    private boolean isLoose(int node, int time) {
        int set = reach(node, time);
        for (int other = 0; other < rails.size(); other++) {
            if ((set >> other & 1) != 0 && rails.get(other) != null) {
                return false;
            }
        }
        return true;
    }

    private static double asDouble(Ratio ratio) {
        return (double) ratio.part(true) / (double) ratio.part(false);
    }

    private Ratio through(Part part, Ratio[] potentials, int time) {
        if (!runs(part, time)) {
            return Ratio.ZERO;
        }
        return part.isSource
            ? Ratio.of(part.size)
            : Ratio.of(part.size).times(potentials[part.a].minus(potentials[part.b]));
    }

    private Ratio[] zeros() {
        Ratio[] zeros = new Ratio[rails.size()];
        java.util.Arrays.fill(zeros, Ratio.ZERO);
        return zeros;
    }

    /** The potentials of all nodes; null for what floats. */
    private Ratio[] potentials(int time) {
        Ratio[] given = new Ratio[rails.size()];
        int fast = 0;
        for (int node = 0; node < rails.size(); node++) {
            if (rails.get(node) != null) {
                given[node] = Ratio.of(rails.get(node));
            }
            if (!isLoose(node, time)) {
                fast |= 1 << node;
            }
        }
        Ratio[] brought = zeros();
        for (Part part : parts) {
            if (part.isSource && runs(part, time)) {
                brought[part.a] = brought[part.a].minus(Ratio.of(part.size));
                brought[part.b] = brought[part.b].plus(Ratio.of(part.size));
            }
        }
        return solved(given, brought, fast, time);
    }

    /** Gauss and Jordan, with a row for each node of the set: an unknown's balance, or what is given. */
    private Ratio[] solved(Ratio[] given, Ratio[] brought, int set, int time) {
        int n = rails.size();
        Ratio[][] rows = new Ratio[n][n + 1];
        for (int node = 0; node < n; node++) {
            java.util.Arrays.fill(rows[node], Ratio.ZERO);
            boolean isSought = (set >> node & 1) != 0 && given[node] == null;
            rows[node][node] = isSought ? Ratio.ZERO : Ratio.of(1);
            rows[node][n] = isSought ? brought[node] : given[node] == null ? Ratio.ZERO : given[node];
            for (Part part : parts) {
                if (isSought && !part.isSource && runs(part, time) && (part.a == node || part.b == node)) {
                    int other = part.a + part.b - node;
                    rows[node][node] = rows[node][node].plus(Ratio.of(part.size));
                    rows[node][other] = rows[node][other].minus(Ratio.of(part.size));
                }
            }
        }
        eliminate(rows, n);
        Ratio[] answer = new Ratio[n];
        for (int node = 0; node < n; node++) {
            answer[node] = (set >> node & 1) != 0 ? rows[node][n] : null;
        }
        return answer;
    }

    private static void eliminate(Ratio[][] rows, int n) {
        for (int column = 0; column < n; column++) {
            int pivot = column;
            while (rows[pivot][column].upper().signum() == 0) {
                pivot++;
            }
            Ratio[] swapped = rows[pivot];
            rows[pivot] = rows[column];
            rows[column] = swapped;
            Ratio head = swapped[column];
            for (int k = column; k <= n; k++) {
                swapped[k] = swapped[k].over(head);
            }
            for (int row = 0; row < n; row++) {
                Ratio factor = rows[row][column];
                if (row != column && factor.upper().signum() != 0) {
                    for (int k = column; k <= n; k++) {
                        rows[row][k] = rows[row][k].minus(factor.times(swapped[k]));
                    }
                }
            }
        }
    }
}
