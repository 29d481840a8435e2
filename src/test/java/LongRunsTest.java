/** Long runs of mixed calls, beside the plain model; the same runs every time. */
public final class LongRunsTest {
    private static final int CALLS = 512;
    // What no answer is, so that it never passes for one that is due.
    private static final long BY_THE_MACHINE = Long.MAX_VALUE;
    private static final int[] ODD = {Integer.MIN_VALUE, -100, -2, -1, 6, 60, 61, 64, 65, 99, 100, 101, 600,
        Integer.MAX_VALUE};

    private final Due due = new Due();
    private long state;
    // How wide a run spreads, and which of its calls come most.
    private int facets;
    private int values;
    private int records;
    private int odd;
    private int building;

    private FacetRows x;
    private PlainRows plain;

    public static void main(String[] args) {
        LongRunsTest test = new LongRunsTest();
        for (int run = 1; run <= 400; run++) {
            test.run(run);
        }
        test.due.end();
    }

    private void run(int run) {
        due.part("run " + run);
        state = run * 7919L + 17L;
        int[] facetsOf = {1, 2, 6};
        int[] valuesOf = {4, 12, 100, 30};
        int[] recordsOf = {3, 10, 60};
        facets = facetsOf[run % 3];
        values = valuesOf[run / 3 % 4];
        records = recordsOf[run / 5 % 3];
        odd = run % 2 == 0 ? 25 : 6;
        building = run % 7 == 0 ? 92 : 50;
        x = new FacetRows();
        plain = new PlainRows();
        int made = 0;
        for (int r = 0; r < records; r++) {
            due.is("record()", x.record(), plain.record());
            made++;
        }
        for (; made < CALLS; made++) {
            if (below(100) < building) {
                change();
            } else {
                ask();
            }
        }
    }

    private int below(int n) {
        state = state * 6364136223846793005L + 1442695040888963407L;
        return (int) ((state >>> 33) % n);
    }

    private int any(int usual) {
        return below(1000) < odd * 2 ? ODD[below(ODD.length)] : usual;
    }

    private int facet() {
        return any(below(facets));
    }

    private int v() {
        return any(below(values));
    }

    private int number() {
        return any(1 + below(records));
    }

    private void change() {
        int kind = below(100);
        int r = number();
        int f = facet();
        int v = v();
        if (kind < 50) {
            due.is("value(" + r + ", " + f + ", " + v + ")", x.value(r, f, v), plain.value(r, f, v));
        } else if (kind < 60) {
            due.is("gone(" + r + ", " + f + ", " + v + ")", x.gone(r, f, v), plain.gone(r, f, v));
        } else if (kind < 78) {
            int up = below(6) == 0 ? -1 : v();
            due.is("narrower(" + f + ", " + v + ", " + up + ")", x.narrower(f, v, up), plain.narrower(f, v, up));
        } else if (kind < 94) {
            boolean on = below(4) != 0;
            due.is("hit(" + r + ", " + on + ")", x.hit(r, on), plain.hit(r, on));
        } else if (kind < 99) {
            due.is("choose(" + f + ", " + v + ")", x.choose(f, v), plain.choose(f, v));
        } else {
            due.is("record()", x.record(), plain.record());
        }
    }

    private void ask() {
        int f = facet();
        int v = v();
        int i = any(below(below(3) == 0 ? 101 : 6));
        switch (below(7)) {
            case 0 -> due.is("count(" + f + ", " + v + ")", x.count(f, v), plain.count(f, v));
            case 1 -> due.is("top(" + f + ", " + i + ")", x.top(f, i), plain.top(f, i));
            case 2 -> {
                boolean roots = below(2) == 0;
                due.is("below(" + f + ", " + roots + ", " + v + ", " + i + ")",
                    x.below(f, roots, v, i), plain.below(f, roots, v, i));
            }
            case 3 -> {
                int to = v();
                due.is("band(" + f + ", " + v + ", " + to + ")", x.band(f, v, to), plain.band(f, v, to));
            }
            case 4 -> askShare(f, v, any(below(2)));
            case 5 -> due.is("missing(" + f + ")", x.missing(f), plain.missing(f));
            default -> due.is("left(" + i + ")", x.left(i), plain.left(i));
        }
    }

    private void askShare(int f, int v, int side) {
        long got;
        try {
            got = x.share(f, v, side);
        } catch (ArithmeticException e) {
            got = Due.isOfTheMachine(e) ? BY_THE_MACHINE : PlainRows.NO_ANSWER;
        }
        due.is("share(" + f + ", " + v + ", " + side + ")", got, plain.share(f, v, side));
    }
}
