/** A method for each sentence of the promises 1 to 7 that names a boundary. */
public final class EdgesOfChangesTest extends Edges {
    public static void main(String[] args) {
        promise1NoRecords();
        promise1NoTrees();
        promise1NoHits();
        promise1NothingChosen();
        promise1NothingOfAnotherObject();
        promise2ZeroIfThereAre60();
        promise3NoSuchRecord();
        promise3NoSuchFacet();
        promise3NoSuchValue();
        promise3ItHasIt();
        promise3ThereAre400();
        promise4FalseIfItHasNotGotIt();
        promise4NoSuchRecordFacetOrValue();
        promise5BelowNone();
        promise5NoSuchFacet();
        promise5NoSuchValue();
        promise5ItWouldBeARing();
        promise6NoSuchRecord();
        promise7NoMoreIfItWas();
        promise7NoSuchFacetOrValue();
        due.end();
    }

    private static void promise1NoRecords() {
        Story s = story("Promise 1: no records");
        int[] none = {MIN, -1, 0, 1, 2, 59, 60, 61, MAX};
        for (int r : none) {
            s.refused(-1, hit(r, true)).refused(-1, hit(r, false)).refused(0, value(r, 0, 0)).refused(0, gone(r, 0, 0));
        }
        for (int f = 0; f <= 5; f++) {
            s.due(0, missing(f)).due(0, band(f, MIN, MAX)).due(-1, top(f, 0)).due(-1, below(f, true, 0, 0));
        }
        s.due(1, record());
    }

    private static void promise1NoTrees() {
        for (int f = 0; f <= 5; f++) {
            Story s = withHits("Promise 1: no trees", 1);
            for (int v = 0; v <= 99; v++) {
                s.due(v + 1, value(1, f, v)).due(v, below(f, true, 0, v)).due(-1, below(f, true, 0, v + 1));
            }
            for (int v = 0; v <= 99; v++) {
                s.due(-1, below(f, false, v, 0));
            }
        }
    }

    private static void promise1NoHits() {
        Story s = story("Promise 1: no hits").due(0, left(0)).refused(Call.THROWS, share(0, 0, 0));
        s.first(record(), record()).due(0, left(0)).due(0, missing(0)).due(0, hit(1, false));
        s.refused(Call.THROWS, share(5, 99, 1)).due(1, hit(2, true)).due(2, left(0)).due(0, left(1));
    }

    private static void promise1NothingChosen() {
        for (int f = 0; f <= 5; f++) {
            Story s = withHits("Promise 1: nothing CHOSEN", 1).due(1, left(0));
            for (int v = 0; v <= 99; v++) {
                s.due(0, choose(f, v)).due(1, choose(f, v));
            }
        }
    }

    private static void promise1NothingOfAnotherObject() {
        Story one = withHits("Promise 1: nothing of another object", 60);
        one.first(value(1, 0, 5), narrower(0, 5, 6), choose(0, 5));
        Story other = withHits("Promise 1: nothing of another object", 0).due(0, left(0)).due(1, record());
        other.due(1, hit(1, true)).due(1, left(0)).due(0, count(0, 5)).due(1, value(1, 0, 5)).due(0, count(0, 6));
        one.due(1, left(0)).due(1, count(0, 6)).due(0, record());
    }

    private static void promise2ZeroIfThereAre60() {
        Story s = story("Promise 2: 0 if there are 60");
        for (int n = 1; n <= 59; n++) {
            s.due(n, record());
        }
        s.refused(-1, hit(60, true)).due(60, record());
        s.refused(0, record()).refused(0, record()).refused(0, record());
        s.refused(-1, hit(61, true)).refused(0, value(61, 0, 0)).due(1, hit(60, true));
        for (int f = 0; f <= 5; f++) {
            s.due(1, missing(f));
        }
        s.due(1, value(60, 5, 99)).due(0, missing(5)).refused(0, record());
    }

    private static void promise3NoSuchRecord() {
        Story s = withHits("Promise 3: no such record", 2).first(value(1, 0, 0), value(2, 0, 0));
        int[] none = {MIN, -63, -62, -1, 0, 3, 60, 61, 64, 65, 66, MAX};
        for (int r : none) {
            s.refused(0, value(r, 0, 1)).refused(0, value(r, 5, 99));
        }
        s.due(2, value(2, 0, 1)).due(3, record()).due(1, value(3, 0, 1)).refused(0, value(4, 0, 1));
    }

    private static void promise3NoSuchFacet() {
        Story s = withHits("Promise 3: no such facet", 1);
        for (int f : NO_FACETS) {
            s.refused(0, value(1, f, 0)).refused(0, value(1, f, 99));
        }
        s.due(1, value(1, 0, 0)).due(1, value(1, 5, 99));
    }

    private static void promise3NoSuchValue() {
        Story s = withHits("Promise 3: no such value", 1);
        for (int v : NO_VALUES) {
            s.refused(0, value(1, 0, v)).refused(0, value(1, 1, v)).refused(0, value(1, 5, v));
        }
        s.due(1, value(1, 1, 0)).due(2, value(1, 1, 99));
    }

    private static void promise3ItHasIt() {
        Story s = withHits("Promise 3: it has it", 2);
        s.due(1, value(1, 0, 0)).refused(0, value(1, 0, 0)).due(1, value(1, 5, 99)).refused(0, value(1, 5, 99));
        s.due(1, value(2, 0, 0)).due(2, value(1, 0, 1)).refused(0, value(1, 0, 1)).refused(0, value(1, 0, 0));
        s.due(1, narrower(0, 1, 2)).due(3, value(1, 0, 2)).refused(0, value(1, 0, 2)).due(1, gone(1, 0, 1));
        s.due(3, value(1, 0, 1));
    }

    private static void promise3ThereAre400() {
        Story s = withHits("Promise 3: there are 400", 3);
        for (int n = 0; n < 399; n++) {
            s.due(1 + n % 100, value(1 + n / 200, n / 100, n % 100));
        }
        s.refused(0, value(1, 0, 0)).refused(0, value(4, 5, 0)).refused(0, value(3, 6, 0)).refused(0, value(3, 5, 100));
        s.due(100, value(2, 3, 99));
        s.refused(0, value(3, 5, 0)).refused(0, value(1, 0, 0)).refused(0, value(1, 5, 99)).refused(0, value(2, 0, 0));
        s.refused(0, gone(3, 5, 0)).refused(0, value(3, 5, 0)).due(3, missing(5));
        s.due(1, gone(1, 0, 0)).due(1, value(3, 5, 0)).refused(0, value(3, 5, 1)).refused(0, value(1, 0, 0));
        s.due(2, missing(5));
    }

    private static void promise4FalseIfItHasNotGotIt() {
        Story s = withHits("Promise 4: false if it has not got it", 2).refused(0, gone(1, 0, 0));
        s.first(value(1, 0, 0), value(1, 0, 99), value(2, 0, 50), value(1, 5, 99), narrower(0, 99, 98));
        s.refused(0, gone(2, 0, 0)).refused(0, gone(1, 0, 50)).refused(0, gone(1, 1, 0)).refused(0, gone(1, 5, 0));
        s.refused(0, gone(1, 0, 1)).refused(0, gone(1, 0, 98)).refused(0, gone(1, 1, 99));
        s.due(1, gone(1, 0, 99)).refused(0, gone(1, 0, 99)).refused(0, gone(1, 0, 98)).due(1, gone(1, 0, 0));
        s.refused(0, gone(1, 0, 0)).due(1, gone(1, 5, 99)).refused(0, gone(1, 5, 99)).due(1, gone(2, 0, 50));
        s.due(1, value(1, 0, 99)).due(1, gone(1, 0, 99));
    }

    private static void promise4NoSuchRecordFacetOrValue() {
        Story s = withHits("Promise 4: it has not got it, there being none such", 2);
        s.first(value(1, 0, 0), value(2, 0, 0), value(1, 0, 99), value(1, 5, 99), value(1, 1, 0), value(1, 0, 4));
        int[] none = {MIN, -63, -62, -1, 0, 3, 61, 64, 65, 66, MAX};
        for (int r : none) {
            s.refused(0, gone(r, 0, 0));
        }
        for (int f : NO_FACETS) {
            s.refused(0, gone(1, f, 0)).refused(0, gone(1, f, 99));
        }
        for (int v : NO_VALUES) {
            s.refused(0, gone(1, 0, v)).refused(0, gone(1, 1, v)).refused(0, gone(1, 5, v));
        }
        s.due(1, gone(1, 0, 0)).due(1, gone(1, 5, 99)).due(1, gone(1, 1, 0)).due(1, gone(1, 0, 99));
    }

    private static void promise5BelowNone() {
        Story s = withHits("Promise 5: (-1: below none)", 1).first(value(1, 0, 3));
        s.idle(1, narrower(0, 3, -1)).due(1, narrower(0, 3, 2)).due(1, narrower(0, 2, 1)).due(1, count(0, 1));
        s.due(1, below(0, true, 0, 0)).due(-1, below(0, true, 0, 1));
        int[] others = {MIN, -3, -2, 100, 101, MAX};
        for (int broader : others) {
            s.refused(0, narrower(0, 3, broader)).refused(0, narrower(0, 1, broader));
        }
        s.due(1, narrower(0, 3, -1)).due(0, count(0, 2)).due(0, count(0, 1)).due(1, count(0, 3));
        s.due(3, below(0, true, 0, 0)).due(-1, below(0, false, 2, 0)).idle(1, narrower(0, 3, -1));
        s.due(1, narrower(5, 99, -1)).due(1, narrower(5, 0, -1)).due(1, narrower(5, 99, 0)).due(1, narrower(5, 99, -1));
        s.due(1, value(1, 5, 99)).due(0, count(5, 0)).due(99, below(5, true, 0, 0));
    }

    private static void promise5NoSuchFacet() {
        Story s = withHits("Promise 5: it stays, if there is no such facet", 1);
        s.first(narrower(0, 4, 5), narrower(0, 96, 97), narrower(5, 99, 98), value(1, 0, 4));
        for (int f : NO_FACETS) {
            s.refused(0, narrower(f, 0, 1)).refused(0, narrower(f, 0, -1)).refused(0, narrower(f, 99, 98));
            s.refused(0, narrower(f, 100, -1)).refused(0, narrower(f, 1, 1));
        }
        s.due(1, count(0, 5)).due(1, narrower(0, 0, 1)).due(1, narrower(5, 98, 97));
    }

    private static void promise5NoSuchValue() {
        Story s = withHits("Promise 5: it stays, if there is no such value", 1);
        s.first(narrower(1, 0, 1), narrower(1, 99, 98), narrower(0, 99, 98), narrower(2, 0, 1), value(1, 1, 0));
        for (int v : NO_VALUES) {
            s.refused(0, narrower(1, v, 50)).refused(0, narrower(1, v, -1)).refused(0, narrower(1, v, v));
            if (v != -1) {
                s.refused(0, narrower(1, 0, v)).refused(0, narrower(1, 99, v)).refused(0, narrower(1, 50, v));
            }
        }
        s.due(1, count(1, 1)).due(0, below(1, false, 1, 0)).due(1, narrower(1, 0, 99)).due(1, narrower(1, 98, -1));
        s.due(1, count(1, 98)).due(1, narrower(1, 98, 97)).due(1, count(1, 97));
    }

    private static void promise5ItWouldBeARing() {
        Story s = withHits("Promise 5: it stays, if it would be a ring", 1).first(value(1, 0, 3));
        s.refused(0, narrower(0, 3, 3)).first(narrower(0, 3, 2)).refused(0, narrower(0, 2, 3));
        s.refused(0, narrower(0, 3, 3)).refused(0, narrower(0, 2, 2)).first(narrower(0, 2, 1), narrower(0, 9, 1));
        s.refused(0, narrower(0, 1, 3)).refused(0, narrower(0, 1, 2)).refused(0, narrower(0, 1, 9));
        s.due(1, narrower(0, 9, 3)).refused(0, narrower(0, 2, 9)).refused(0, narrower(0, 3, 9)).due(1, count(0, 1));
        s.idle(1, narrower(0, 3, 2)).due(1, narrower(0, 3, 1)).due(1, narrower(0, 2, 9)).due(1, count(0, 1));
        s.due(0, count(0, 2)).due(1, narrower(0, 3, -1)).due(1, narrower(0, 1, 2)).refused(0, narrower(0, 3, 1));
        s.due(1, narrower(1, 2, 3)).due(1, narrower(5, 99, 0)).refused(0, narrower(5, 0, 99));
    }

    private static void promise6NoSuchRecord() {
        Story s = story("Promise 6: NONE if there is no such record");
        s.refused(-1, hit(1, true)).refused(-1, hit(0, true)).refused(-1, hit(1, false));
        s.first(record(), record()).due(1, hit(2, true));
        int[] none = {MIN, -63, -62, -1, 0, 3, 60, 61, 63, 64, 65, 66, MAX};
        for (int r : none) {
            s.refused(-1, hit(r, true)).refused(-1, hit(r, false));
        }
        s.due(2, hit(1, true)).idle(2, hit(1, true)).due(1, hit(2, false)).idle(1, hit(2, false));
        s.due(3, record()).due(2, hit(3, true)).refused(-1, hit(4, true));
        for (int n = 4; n <= 60; n++) {
            s.first(record());
        }
        s.due(3, hit(60, true)).refused(-1, hit(61, true)).refused(-1, hit(61, false)).due(2, hit(60, false));
    }

    private static void promise7NoMoreIfItWas() {
        Story s = withHits("Promise 7: or no more, if it was", 3);
        s.first(value(1, 0, 0), value(2, 0, 99), value(1, 5, 99));
        s.due(1, choose(0, 0)).due(3, choose(0, 0)).due(1, choose(0, 0)).due(2, choose(0, 99)).due(1, choose(5, 99));
        s.due(0, choose(0, 0)).due(1, choose(5, 99)).due(3, choose(0, 99)).due(0, choose(0, 50)).due(3, choose(0, 50));
        s.due(1, choose(5, 99)).due(1, choose(5, 0)).due(0, choose(5, 99)).due(3, choose(5, 0));
    }

    private static void promise7NoSuchFacetOrValue() {
        Story s = withHits("Promise 7: NONE if there is no such facet or value", 2);
        s.first(value(1, 0, 0), value(1, 1, 99), choose(0, 0));
        for (int f : NO_FACETS) {
            s.refused(-1, choose(f, 0)).refused(-1, choose(f, 99));
        }
        for (int v : NO_VALUES) {
            s.refused(-1, choose(0, v)).refused(-1, choose(1, v)).refused(-1, choose(2, v)).refused(-1, choose(5, v));
        }
        s.due(1, left(0)).due(0, left(1)).due(2, choose(0, 0)).due(1, choose(1, 99)).due(0, choose(5, 99));
    }
}
