import java.util.List;
import java.util.function.Consumer;
import java.util.function.Supplier;

/** A refused call, of whatever kind and in whatever state, leaves all later answers as they were. */
public final class EdgesOfRefusalsTest extends Edges {
    private static final int[] NO_PLACES = {MIN, -1, 100, MAX};

    public static void main(String[] args) {
        List<Supplier<Story>> states = List.of(
            () -> story("a refused call on a new object"),
            () -> busy("a busy object", 11),
            () -> choosing("a busy object with values chosen", 11),
            () -> choosing("a busy object with 60 records", 60),
            () -> choosing("a busy object with no hit left", 11).first(choose(2, 1), choose(2, 98), choose(2, 77)));
        List<Consumer<Story>> refusals = List.of(
            EdgesOfRefusalsTest::noSuchRecord,
            EdgesOfRefusalsTest::noSuchFacet,
            EdgesOfRefusalsTest::noSuchFacetAsked,
            s -> noSuchValue(s, 0),
            s -> noSuchValue(s, 5),
            EdgesOfRefusalsTest::noSuchPlace);
        for (Supplier<Story> state : states) {
            for (Consumer<Story> refusal : refusals) {
                refusal.accept(state.get());
            }
        }
        notYetARecord(story("a refused call on a new object"), 1);
        notYetARecord(busy("a busy object", 11), 12);
        notYetARecord(choosing("a busy object with values chosen", 11), 12);
        whatABusyObjectRefuses(busy("a busy object", 11));
        whatABusyObjectRefuses(choosing("a busy object with values chosen", 11));
        whatABusyObjectRefuses(choosing("a busy object with 60 records", 60));
        choosing("a busy object with 60 records", 60).refused(0, record()).refused(0, record());
        noShareWithoutAHit();
        fourHundredValues();
        due.end();
    }

    /**
     * The records 1 to 10 are hits and have values of every facet, the same
     * trees in each; the hit 5 + f has no value of facet f but for 97.
     */
    private static Story busy(String state, int records) {
        Story s = story("a refused call on " + state);
        for (int r = 1; r <= records; r++) {
            s.first(record());
        }
        for (int r = 1; r <= 10; r++) {
            s.first(hit(r, true));
        }
        for (int f = 0; f <= 5; f++) {
            s.first(value(1, f, 0), value(2, f, 99), value(3, f, 50), value(4, f, 4), value(5 + f, f, 97));
            s.first(narrower(f, 99, 50), narrower(f, 50, 1), narrower(f, 4, 1), narrower(f, 0, 98));
            s.first(narrower(f, 96, 97));
            for (int r = 5; r <= 10; r++) {
                if (r != 5 + f) {
                    s.first(value(r, f, 1));
                }
            }
        }
        return s;
    }

    /** The same with 1 and 98 chosen in every facet: the hits 1 to 4 are left, each of the others lacks one facet. */
    private static Story choosing(String state, int records) {
        Story s = busy(state, records);
        for (int f = 0; f <= 5; f++) {
            s.first(choose(f, 1), choose(f, 98));
        }
        return s;
    }

    private static void noSuchRecord(Story s) {
        int[] none = {MIN, -63, -1, 0, 61, 64, 65, MAX};
        for (int r : none) {
            s.refused(0, value(r, 0, 3)).refused(0, value(r, 5, 99));
            s.refused(0, gone(r, 0, 0)).refused(0, gone(r, 5, 99));
            s.refused(-1, hit(r, true)).refused(-1, hit(r, false));
        }
    }

    private static void notYetARecord(Story s, int r) {
        s.refused(0, value(r, 0, 3)).refused(0, value(r, 5, 99)).refused(0, gone(r, 0, 0)).refused(0, gone(r, 5, 99));
        s.refused(-1, hit(r, true)).refused(-1, hit(r, false)).refused(-1, hit(60, true)).refused(0, value(60, 0, 0));
    }

    private static void noSuchFacet(Story s) {
        for (int f : NO_FACETS) {
            s.refused(0, value(1, f, 0)).refused(0, value(1, f, 99));
            s.refused(0, gone(1, f, 0)).refused(0, gone(2, f, 99));
            s.refused(0, narrower(f, 0, 50)).refused(0, narrower(f, 0, -1)).refused(0, narrower(f, 99, -1));
            s.refused(0, narrower(f, 50, 50)).refused(-1, choose(f, 1)).refused(-1, choose(f, 0));
        }
    }

    private static void noSuchFacetAsked(Story s) {
        for (int f : NO_FACETS) {
            s.refused(-1, count(f, 0)).refused(-1, top(f, 0)).refused(-1, below(f, true, 0, 0));
            s.refused(-1, below(f, false, 50, 0)).refused(-1, band(f, 0, 99)).refused(-1, share(f, 0, 0));
            s.refused(-1, missing(f));
        }
    }

    private static void noSuchValue(Story s, int f) {
        for (int v : NO_VALUES) {
            s.refused(0, value(1, f, v)).refused(0, gone(1, f, v));
            s.refused(0, narrower(f, v, 50)).refused(0, narrower(f, v, -1)).refused(0, narrower(f, v, v));
            if (v != -1) {
                s.refused(0, narrower(f, 50, v)).refused(0, narrower(f, 99, v));
            }
            s.refused(-1, choose(f, v)).refused(-1, count(f, v)).refused(-1, below(f, false, v, 0));
            s.refused(-1, share(f, v, 0));
        }
    }

    private static void noSuchPlace(Story s) {
        for (int i : NO_PLACES) {
            s.refused(-1, top(0, i)).refused(-1, below(5, true, 0, i)).refused(-1, below(0, false, 50, i));
            s.refused(0, left(i));
        }
        s.refused(-1, band(0, 1, 0)).refused(-1, band(5, 0, -1));
        s.refused(-1, band(5, 100, 99)).refused(-1, band(0, MAX, MIN));
    }

    private static void whatABusyObjectRefuses(Story s) {
        for (int f = 0; f <= 5; f += 5) {
            s.refused(0, value(1, f, 0)).refused(0, value(2, f, 99)).refused(0, value(4, f, 4));
            s.refused(0, gone(1, f, 98)).refused(0, gone(2, f, 50));
            s.refused(0, gone(5 + f, f, 1)).refused(0, gone(11, f, 0));
            s.refused(0, narrower(f, 1, 99)).refused(0, narrower(f, 50, 99)).refused(0, narrower(f, 1, 4));
            s.refused(0, narrower(f, 98, 0)).refused(0, narrower(f, 99, 99)).refused(0, narrower(f, 0, 0));
            s.idle(1, narrower(f, 99, 50)).idle(1, narrower(f, 1, -1)).idle(10, hit(1, true)).idle(10, hit(11, false));
            s.refused(-1, below(f, false, 99, 0)).refused(-1, below(f, false, 77, 0)).refused(0, left(10));
        }
    }

    private static void noShareWithoutAHit() {
        Story s = choosing("a busy object with no hit left", 11).first(choose(5, 1), choose(5, 98), choose(5, 77));
        for (int f = 0; f <= 5; f++) {
            s.refused(Call.THROWS, share(f, 0, 0)).refused(Call.THROWS, share(f, 99, 1));
        }
        s.refused(-1, top(0, 0)).refused(-1, below(0, true, 0, 0)).refused(-1, below(5, false, 1, 0));
        s.refused(0, left(0));
    }

    private static void fourHundredValues() {
        Story s = story("a refused call on an object with 400 values").first(record(), record(), record());
        s.first(hit(1, true), hit(2, true), narrower(0, 99, 50), narrower(5, 99, 50), choose(0, 50));
        for (int n = 0; n < 400; n++) {
            s.first(value(1 + n % 2, n / 200, n % 200 / 2));
        }
        s.refused(0, value(1, 5, 99)).refused(0, value(2, 2, 0)).refused(0, value(3, 0, 0)).refused(0, value(1, 0, 0));
        s.refused(0, value(4, 0, 0)).refused(0, value(0, 0, 0)).refused(0, value(3, 6, 0)).refused(0, value(3, -1, 99));
        s.refused(0, value(3, 0, 100)).refused(0, value(3, 1, -1)).refused(0, value(3, MAX, MIN));
        s.refused(0, gone(3, 0, 0)).refused(0, gone(1, 5, 99)).refused(0, gone(4, 0, 0)).refused(0, gone(1, 6, 0));
        s.refused(0, gone(1, 0, 100)).refused(0, narrower(0, 50, 99)).refused(0, narrower(0, 99, 100));
        s.refused(-1, hit(4, true)).refused(-1, hit(0, false)).refused(-1, choose(6, 0)).refused(-1, choose(0, 100));
        s.refused(-1, count(0, 100)).refused(-1, top(0, 100)).refused(-1, band(0, 1, 0)).refused(-1, share(0, -1, 0));
        s.refused(-1, missing(6)).refused(0, left(2));
    }
}
