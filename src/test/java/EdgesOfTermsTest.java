/** A method for each sentence of "Terms" and "What it is" that names a boundary. */
public final class EdgesOfTermsTest extends Edges {
    public static void main(String[] args) {
        recordsAre1To60AsTheyCome();
        facetsAre0To5();
        valuesAre0To99();
        eachButOnce();
        fourHundredInAllOfManyRecords();
        fourHundredInAllOfOneRecord();
        fourHundredAtOnceNotEver();
        neverARing();
        atAnyDepth();
        noHitsAtFirst();
        bothBelongToTheBand();
        the512thCallOfAFullObject();
        the512thCallOfOneKind();
        due.end();
    }

    private static void recordsAre1To60AsTheyCome() {
        Story s = story("RECORDS are 1 .. 60, as they come");
        s.refused(0, value(1, 0, 0)).refused(0, gone(1, 0, 0)).refused(-1, hit(1, true));
        for (int n = 1; n <= 60; n++) {
            s.due(n, record());
            s.due(n, hit(n, true));
            s.due(1, value(n, 0, n % 100));
            s.due(-1, hit(n + 1, true));
            s.due(0, value(n + 1, 0, 0));
        }
        // 65, 124 and -63 are 1 and 60 again for a shift of a long.
        int[] none = {MIN, -63, -1, 0, 61, 64, 65, 124, MAX};
        for (int r : none) {
            s.refused(0, value(r, 0, 0));
            s.refused(0, gone(r, 0, 1));
            s.refused(-1, hit(r, true));
            s.refused(-1, hit(r, false));
        }
        s.due(1, left(0)).due(60, left(59)).due(0, left(60));
        s.due(1, gone(1, 0, 1)).due(1, gone(60, 0, 60));
        s.due(59, hit(1, false)).due(58, hit(60, false));
    }

    /** Record 1 is a hit and has, of the facets 0 and 5, the values 0 and 99; 99 lies below 50. */
    private static Story withEnds(String sentence) {
        Story s = story(sentence).first(record(), hit(1, true));
        for (int f = 0; f <= 5; f += 5) {
            s.first(value(1, f, 0), value(1, f, 99), narrower(f, 99, 50));
        }
        return s;
    }

    private static void facetsAre0To5() {
        for (int f = 0; f <= 5; f += 5) {
            Story s = withEnds("FACETS 0 .. 5");
            s.due(1, count(f, 50)).due(0, top(f, 0)).due(50, top(f, 1)).due(99, top(f, 2)).due(-1, top(f, 3));
            s.due(0, below(f, true, 0, 0)).due(50, below(f, true, 0, 1)).due(99, below(f, false, 50, 0));
            s.due(1, band(f, 0, 0)).due(1, share(f, 50, 0)).due(1, share(f, 50, 1)).due(0, missing(f));
            s.due(3, value(1, f, 1)).due(1, gone(1, f, 1)).due(1, narrower(f, 99, 51));
            s.due(0, choose(f, 50)).due(1, choose(f, 51));
        }
        Story s = withEnds("FACETS 0 .. 5");
        for (int f : NO_FACETS) {
            s.refused(0, value(1, f, 1)).refused(0, gone(1, f, 0)).refused(0, gone(1, f, 99));
            s.refused(0, narrower(f, 99, 51)).refused(0, narrower(f, 99, -1));
            s.refused(-1, choose(f, 0)).refused(-1, choose(f, 99)).refused(-1, count(f, 0));
            s.refused(-1, top(f, 0)).refused(-1, below(f, true, 0, 0)).refused(-1, below(f, false, 50, 0));
            s.refused(-1, band(f, 0, 99)).refused(-1, band(f, MIN, MAX));
            s.refused(-1, share(f, 0, 0)).refused(-1, share(f, 99, 1)).refused(-1, missing(f));
        }
    }

    private static void valuesAre0To99() {
        int[] ends = {0, 99};
        for (int v : ends) {
            Story s = story("VALUES 0 .. 99 of a facet").first(record(), hit(1, true));
            s.due(1, value(1, 2, v)).due(1, count(2, v)).due(v, top(2, 0)).due(1, band(2, v, v));
            s.due(1, share(2, v, 0)).due(1, choose(2, v)).due(1, choose(2, v));
            s.due(1, narrower(2, v, 50)).due(v, below(2, false, 50, 0)).due(1, count(2, 50));
            s.due(1, narrower(2, v, -1)).due(1, narrower(2, 50, v)).due(0, count(2, 50));
            s.due(2, value(1, 2, 50)).due(50, below(2, false, v, 0)).due(1, gone(1, 2, v)).due(1, count(2, v));
        }
        // Beside facet 2 lie values that must not be taken for its own.
        Story s = story("VALUES 0 .. 99 of a facet").first(record(), hit(1, true), value(1, 2, 0), value(1, 2, 99),
            value(1, 1, 99), value(1, 3, 0), narrower(1, 99, 50), narrower(3, 50, 0));
        for (int v : NO_VALUES) {
            s.refused(0, value(1, 2, v)).refused(0, gone(1, 2, v));
            s.refused(0, narrower(2, v, 50)).refused(0, narrower(2, v, -1)).refused(0, narrower(2, v, v));
            if (v != -1) {
                s.refused(0, narrower(2, 50, v));
            }
            s.refused(-1, choose(2, v)).refused(-1, count(2, v)).refused(-1, below(2, false, v, 0));
            s.refused(-1, share(2, v, 0)).refused(-1, share(2, v, 1));
        }
        s.refused(0, value(1, 0, -1)).refused(0, value(1, 5, 100));
        s.refused(-1, choose(0, -1)).refused(-1, choose(5, 100));
        s.refused(0, narrower(0, -1, 1)).refused(0, narrower(5, 100, 1));
    }

    private static void eachButOnce() {
        Story s = story("VALUES of a facet, each but once").first(record(), record(), hit(1, true), hit(2, true));
        s.due(1, value(1, 0, 7)).refused(0, value(1, 0, 7)).refused(0, value(1, 0, 7));
        s.due(1, value(2, 0, 7)).due(1, value(1, 1, 7)).due(2, value(1, 0, 8));
        s.due(1, gone(1, 0, 7)).refused(0, gone(1, 0, 7)).due(1, count(0, 7));
        s.due(2, value(1, 0, 7)).refused(0, value(1, 0, 7));
    }

    private static void fourHundredInAllOfManyRecords() {
        Story s = story("400 in all");
        for (int r = 1; r <= 60; r++) {
            s.due(r, record());
        }
        for (int n = 0; n < 399; n++) {
            s.due(1 + n / 360, value(1 + n % 60, n / 60 % 6, n / 360));
        }
        s.due(2, value(40, 0, 1));
        s.refused(0, value(40, 0, 1)).refused(0, value(41, 0, 1)).refused(0, value(1, 5, 99));
        s.refused(0, record());
        s.due(1, gone(40, 0, 1)).due(2, value(60, 0, 1));
        s.refused(0, value(40, 0, 1)).refused(0, value(60, 5, 99));
    }

    private static void fourHundredInAllOfOneRecord() {
        Story s = story("400 in all").first(record(), record(), hit(1, true), hit(2, true));
        for (int n = 0; n < 400; n++) {
            s.due(1 + n % 100, value(2, 2 + n / 100, n % 100));
        }
        s.refused(0, value(2, 0, 0)).refused(0, value(1, 0, 0)).refused(0, value(1, 5, 99));
        s.due(1, gone(2, 5, 99)).due(1, gone(2, 2, 0));
        s.due(1, value(1, 0, 0)).due(1, value(2, 1, 99)).refused(0, value(2, 5, 99));
    }

    private static void fourHundredAtOnceNotEver() {
        Story s = story("400 in all, those that are gone left out").first(record());
        for (int v = 0; v < 100; v++) {
            s.first(value(1, 0, v), gone(1, 0, v));
        }
        for (int n = 0; n < 305; n++) {
            s.due(1 + n % 100, value(1, n / 100, n % 100));
        }
    }

    private static void neverARing() {
        Story s = story("never a ring").first(record(), hit(1, true), value(1, 0, 50));
        s.refused(0, narrower(0, 0, 0)).refused(0, narrower(0, 50, 50)).refused(0, narrower(0, 99, 99));
        for (int v = 1; v <= 99; v++) {
            s.due(1, narrower(0, v, v - 1));
            if (v == 1 || v == 2 || v == 50 || v == 98 || v == 99) {
                s.refused(0, narrower(0, 0, v));
                s.refused(0, narrower(0, v - 1, v));
            }
        }
        s.refused(0, narrower(0, 30, 70)).refused(0, narrower(0, 98, 99)).refused(0, narrower(0, 50, 50));
        s.due(1, narrower(0, 70, 30)).due(1, narrower(0, 69, 99)).refused(0, narrower(0, 70, 69));
        s.due(1, narrower(1, 0, 99)).due(1, narrower(0, 1, -1)).due(1, narrower(0, 0, 99));
    }

    private static void atAnyDepth() {
        Story s = story("HAS a value if one of its VALUES lies below it, at any depth").first(record(), hit(1, true));
        s.due(1, value(1, 0, 0)).due(1, count(0, 0));
        for (int v = 0; v < 99; v++) {
            s.due(0, count(0, v + 1)).due(1, narrower(0, v, v + 1)).due(1, count(0, v + 1));
        }
        s.due(1, choose(0, 99)).due(1, share(0, 99, 0)).due(99, below(0, true, 0, 0)).due(0, top(0, 0));
        s.due(99, top(0, 99)).due(-1, top(0, 100));
        s.due(1, gone(1, 0, 0)).due(0, count(0, 99)).due(0, left(0));
        s.due(1, value(1, 0, 50)).due(1, count(0, 99)).due(1, left(0)).due(0, count(0, 49));
    }

    private static void noHitsAtFirst() {
        Story s = story("THE HITS are a set of records (none at first)").due(0, left(0));
        for (int n = 1; n <= 60; n++) {
            s.due(n, record()).due(0, left(0));
        }
        s.due(0, hit(1, false)).due(0, choose(0, 0)).due(0, choose(0, 0)).due(0, missing(0));
        s.refused(Call.THROWS, share(0, 0, 0));
        s.due(1, hit(60, true)).due(60, left(0)).due(0, left(1)).due(1, hit(60, true)).due(0, hit(60, false));
    }

    private static void bothBelongToTheBand() {
        Story s = story("from one value to another (both belong to it)").first(record(), hit(1, true));
        s.first(value(1, 0, 40), record(), hit(2, true), value(2, 0, 60));
        s.due(2, band(0, 40, 60)).due(1, band(0, 41, 60)).due(1, band(0, 40, 59)).due(0, band(0, 41, 59));
        s.due(1, band(0, 40, 40)).due(1, band(0, 60, 60)).due(0, band(0, 39, 39)).due(0, band(0, 61, 61));
        s.due(1, band(0, 39, 40)).due(1, band(0, 60, 61)).due(0, band(0, MIN, 39)).due(0, band(0, 61, MAX));
        s.first(value(1, 1, 0), value(2, 1, 99));
        s.due(1, band(1, 0, 0)).due(1, band(1, 99, 99)).due(2, band(1, 0, 99)).due(0, band(1, 1, 98));
        s.due(1, band(1, -1, 0)).due(1, band(1, 99, 100)).due(1, band(1, MIN, 98)).due(1, band(1, 1, MAX));
        s.due(2, band(1, MIN, MAX));
        // 98 lies in the band and is had by the tree, but is nobody's VALUE.
        s.first(narrower(1, 99, 98)).due(1, count(1, 98)).due(0, band(1, 98, 98)).due(0, band(1, 1, 98));
    }

    private static void the512thCallOfAFullObject() {
        Story s = story("at most 512 calls: a full object");
        for (int n = 1; n <= 60; n++) {
            s.first(record());
        }
        // Record 1 gets the values 0, 10 .. 60 of facet 0, record 7 gets 1,
        // 11 .. 61 of it, record 60 gets 9, 19 .. 59 of facet 5.
        for (int n = 0; n < 400; n++) {
            s.first(value(1 + n % 60, n % 6, n / 6));
        }
        for (int v = 1; v <= 40; v++) {
            s.due(1, narrower(0, v, v - 1));
        }
        s.due(1, hit(1, true)).due(2, hit(60, true)).due(1, choose(0, 0)).due(0, choose(5, 9)).due(1, choose(0, 0));
        s.due(60, left(0)).due(1, count(5, 9)).due(9, top(5, 0));
        s.due(3, hit(7, true)).due(3, choose(5, 9)).due(2, count(0, 0)).due(3, share(0, 0, 1));
        due.is("calls made", s.calls(), 512);
    }

    private static void the512thCallOfOneKind() {
        String sentence = "at most 512 calls: the same again and again";
        Story records = story(sentence);
        for (int n = 1; n <= 512; n++) {
            records.due(n <= 60 ? n : 0, record());
        }
        Story throwing = story(sentence);
        for (int n = 1; n <= 512; n++) {
            throwing.due(Call.THROWS, share(0, 0, n % 2));
        }
        Call[] on = {value(1, 0, 5), hit(1, true), narrower(0, 5, 6), choose(0, 7)};
        Call[] off = {gone(1, 0, 5), hit(1, false), narrower(0, 5, -1), choose(0, 7)};
        int[] whenOff = {1, 0, 1, 1};
        int[] whenOn = {1, 1, 1, 0};
        for (int kind = 0; kind < on.length; kind++) {
            Story s = story(sentence).first(record(), hit(1, kind != 1));
            while (s.calls() < 510) {
                s.due(whenOn[kind], on[kind]).due(whenOff[kind], off[kind]);
            }
            s.due(0, count(0, 5)).due(kind == 1 ? 0 : 1, left(0));
            due.is("calls made", s.calls(), 512);
        }
        Call[] asks = {count(0, 5), top(0, 0), below(0, true, 0, 0), below(0, false, 5, 0), band(0, 6, 6),
            share(0, 5, 0), missing(1), left(0)};
        int[] answers = {1, 5, 5, 6, 1, 1, 1, 1};
        for (int kind = 0; kind < asks.length; kind++) {
            Story s = story(sentence).first(record(), hit(1, true), narrower(0, 6, 5), value(1, 0, 6));
            while (s.calls() < 512) {
                s.due(answers[kind], asks[kind]);
            }
        }
    }
}
