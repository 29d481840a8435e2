import java.util.Arrays;

/**
 * Facets over hits: counts of values by trees, bands of years, chosen ones
 * combined, the most frequent in order, shares as exact fractions. What each
 * call answers stands in the document and, by an example, in README.md.
 */
public final class FacetRows {
    public static final int NONE = -1;

    private static final int MOST_RECORDS = 60;
    private static final int FACETS = 6;
    private static final int VALUES = 100;
    private static final int MOST_HELD = 400;
    private static final long EVERY_RECORD = -1L;

    // A set of records is a long, record r its bit r: sixty records fit, and
    // no call has to make an object. The rows have a cell for each value of
    // each facet.
    private final long[] holders;
    // Follows from holders and broaderOf; kept because choosing and counting
    // ask for it far more often than it changes.
    private final long[] havers;
    private final int[] broaderOf;
    private final boolean[] chosen;
    // What top and below work on; of no meaning between two calls.
    private final int[] counts;
    private int records;
    private int held;
    private long hits;

    public FacetRows() {
        holders = new long[FACETS * VALUES];
        havers = new long[FACETS * VALUES];
        broaderOf = new int[FACETS * VALUES];
        Arrays.fill(broaderOf, NONE);
        chosen = new boolean[FACETS * VALUES];
        counts = new int[VALUES];
        records = 0;
        held = 0;
        hits = 0L;
    }

    public int record() {
        if (records >= MOST_RECORDS) {
            return 0;
        }
        records++;
        return records;
    }

    public int value(int record, int facet, int v) {
        if (!isRecord(record) || !isFacet(facet) || !isValue(v)) {
            return 0;
        }
        // Its own values alone: one that it has by the tree may still become one.
        if (holds(record, facet, v) || held >= MOST_HELD) {
            return 0;
        }
        holders[cell(facet, v)] |= bit(record);
        held++;
        raise(facet, v, bit(record));
        return heldOf(record, facet);
    }

    public boolean gone(int record, int facet, int v) {
        if (!isRecord(record) || !isFacet(facet) || !isValue(v)) {
            return false;
        }
        if (!holds(record, facet, v)) {
            return false;
        }
        holders[cell(facet, v)] &= ~bit(record);
        held--;
        raiseAll(facet);
        return true;
    }

    public int narrower(int facet, int v, int broader) {
        if (!isFacet(facet) || !isValue(v)) {
            return 0;
        }
        if (broader != NONE && (!isValue(broader) || isAtOrBelow(facet, broader, v))) {
            return 0;
        }
        broaderOf[cell(facet, v)] = broader;
        raiseAll(facet);
        return 1;
    }

    public int hit(int record, boolean on) {
        if (!isRecord(record)) {
            return NONE;
        }
        if (on) {
            hits |= bit(record);
        } else {
            hits &= ~bit(record);
        }
        return Long.bitCount(hits);
    }

    public int choose(int facet, int v) {
        if (!isFacet(facet) || !isValue(v)) {
            return NONE;
        }
        chosen[cell(facet, v)] = !chosen[cell(facet, v)];
        return Long.bitCount(hitsLeft());
    }

    public int count(int facet, int v) {
        if (!isFacet(facet) || !isValue(v)) {
            return NONE;
        }
        return Long.bitCount(hitsLeft() & havers[cell(facet, v)]);
    }

    public int top(int facet, int i) {
        if (!isFacet(facet)) {
            return NONE;
        }
        countValues(facet);
        return ranked(i);
    }

    public int below(int facet, boolean roots, int v, int i) {
        // Without this test, v = -1 would stand for the roots.
        if (!isFacet(facet) || (!roots && !isValue(v))) {
            return NONE;
        }
        countValues(facet);
        dropOthersThanBelow(facet, roots ? NONE : v);
        return ranked(i);
    }

    public int band(int facet, int from, int to) {
        if (!isFacet(facet) || to < from) {
            return NONE;
        }
        return Long.bitCount(hitsLeft() & holdersBetween(facet, from, to));
    }

    public long share(int facet, int v, int side) throws ArithmeticException {
        // Before the throw: of no value there is no share that could lack a hit.
        if (!isFacet(facet) || !isValue(v)) {
            return NONE;
        }
        long left = hitsLeft();
        int all = Long.bitCount(left);
        if (all == 0) {
            throw new ArithmeticException("no hit is left");
        }
        int having = Long.bitCount(left & havers[cell(facet, v)]);
        int divisor = commonDivisor(having, all);
        return side == 0 ? having / divisor : all / divisor;
    }

    public int missing(int facet) {
        if (!isFacet(facet)) {
            return NONE;
        }
        return Long.bitCount(hitsLeft() & ~holdersBetween(facet, 0, VALUES - 1));
    }

    public int left(int i) {
        long left = hitsLeft();
        int before = 0;
        for (int record = 1; record <= records; record++) {
            if ((left & bit(record)) != 0L) {
                if (before == i) {
                    return record;
                }
                before++;
            }
        }
        return 0;
    }

    private boolean isRecord(int record) {
        return record >= 1 && record <= records;
    }

    private static boolean isFacet(int facet) {
        return facet >= 0 && facet < FACETS;
    }

    private static boolean isValue(int v) {
        return v >= 0 && v < VALUES;
    }

    private static int cell(int facet, int v) {
        return facet * VALUES + v;
    }

    private static long bit(int record) {
        return 1L << record;
    }

    private boolean holds(int record, int facet, int v) {
        return (holders[cell(facet, v)] & bit(record)) != 0L;
    }

    private int heldOf(int record, int facet) {
        int sum = 0;
        for (int v = 0; v < VALUES; v++) {
            if (holds(record, facet, v)) {
                sum++;
            }
        }
        return sum;
    }

    // A band may reach beyond the values at both ends.
    private long holdersBetween(int facet, int from, int to) {
        int last = Math.min(to, VALUES - 1);
        long some = 0L;
        for (int v = Math.max(from, 0); v <= last; v++) {
            some |= holders[cell(facet, v)];
        }
        return some;
    }

    // A tree is no deeper than its values are many; the counter shows that
    // the way up ends without resting on there being no ring.
    private boolean isAtOrBelow(int facet, int v, int other) {
        int at = v;
        for (int steps = 0; steps < VALUES && isValue(at); steps++) {
            if (at == other) {
                return true;
            }
            at = broaderOf[cell(facet, at)];
        }
        return false;
    }

    private void raise(int facet, int v, long some) {
        int at = v;
        for (int steps = 0; steps < VALUES && isValue(at); steps++) {
            havers[cell(facet, at)] |= some;
            at = broaderOf[cell(facet, at)];
        }
    }

    // What a value or a branch leaves behind above it may still come from
    // elsewhere, so the facet is gathered anew.
    private void raiseAll(int facet) {
        for (int v = 0; v < VALUES; v++) {
            havers[cell(facet, v)] = 0L;
        }
        for (int v = 0; v < VALUES; v++) {
            long some = holders[cell(facet, v)];
            if (some != 0L) {
                raise(facet, v, some);
            }
        }
    }

    private long hitsLeft() {
        long left = hits;
        for (int facet = 0; facet < FACETS; facet++) {
            left &= admitted(facet);
        }
        return left;
    }

    private long admitted(int facet) {
        boolean any = false;
        long some = 0L;
        for (int v = 0; v < VALUES; v++) {
            if (chosen[cell(facet, v)]) {
                any = true;
                some |= havers[cell(facet, v)];
            }
        }
        return any ? some : EVERY_RECORD;
    }

    private void countValues(int facet) {
        long left = hitsLeft();
        for (int v = 0; v < VALUES; v++) {
            counts[v] = Long.bitCount(left & havers[cell(facet, v)]);
        }
    }

    private void dropOthersThanBelow(int facet, int broader) {
        for (int v = 0; v < VALUES; v++) {
            if (broaderOf[cell(facet, v)] != broader) {
                counts[v] = 0;
            }
        }
    }

    // A count is at most sixty, so going down the counts sorts without a
    // second row.
    private int ranked(int i) {
        int before = 0;
        for (int much = MOST_RECORDS; much >= 1; much--) {
            for (int v = 0; v < VALUES; v++) {
                if (counts[v] == much) {
                    if (before == i) {
                        return v;
                    }
                    before++;
                }
            }
        }
        return NONE;
    }

    // Never 0, so that dividing by it is safe; of 0 and all it is all, which
    // makes a share of nothing 0 / 1.
    private static int commonDivisor(int part, int all) {
        for (int d = all; d > 1; d--) {
            if (part % d == 0 && all % d == 0) {
                return d;
            }
        }
        return 1;
    }
}
