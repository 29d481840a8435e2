/** A method for each sentence of the promises 8 to 14 that names a boundary. */
public final class EdgesOfAsksTest extends Edges {
    public static void main(String[] args) {
        promise8NoSuchFacetOrValue();
        promise9TheIthFrom0On();
        promise9TheIthOfAHundred();
        promise9TheMostOf60();
        promise9NoneSuch();
        promise10TheIthLikewise();
        promise10TheIthOfAHundred();
        promise10NoneSuch();
        promise10VDoesNotMatterIfRootsIsTrue();
        promise11NoSuchFacet();
        promise11ToIsBelowFrom();
        promise12ZeroIsZeroOfOne();
        promise12LeastTerms();
        promise12AnySide();
        promise12NoSuchFacetOrValue();
        promise12NoHitIsLeft();
        promise13NoSuchFacet();
        promise14TheIthFrom0On();
        promise14NoneSuch();
        due.end();
    }

    private static void promise8NoSuchFacetOrValue() {
        Story s = withHits("Promise 8: NONE if there is no such facet or value", 2);
        s.first(value(1, 0, 0), value(2, 0, 0), value(1, 0, 4), value(1, 0, 96), value(1, 1, 99), value(1, 5, 99));
        for (int f : NO_FACETS) {
            s.refused(-1, count(f, 0)).refused(-1, count(f, 99)).refused(-1, count(f, 100));
        }
        for (int v : NO_VALUES) {
            s.refused(-1, count(0, v)).refused(-1, count(1, v)).refused(-1, count(2, v)).refused(-1, count(5, v));
        }
        s.due(2, count(0, 0)).due(0, count(0, 99)).due(0, count(5, 0)).due(1, count(5, 99)).due(0, count(3, 50));
        s.first(choose(3, 50)).due(0, count(0, 0)).refused(-1, count(0, 100)).refused(-1, count(6, 0));
        Story empty = story("Promise 8: NONE, not 0, without a record");
        empty.due(0, count(0, 0)).due(0, count(5, 99)).refused(-1, count(6, 0)).refused(-1, count(-1, 0));
        empty.refused(-1, count(0, 100)).refused(-1, count(0, -1));
    }

    /** Of facet 0 the hits have 99 three times, 0 and 7 twice, 1 and 98 once; a record that is no hit has 50. */
    private static Story ranked(String sentence) {
        Story s = withHits(sentence, 3).first(record(), value(4, 0, 50), value(4, 0, 1));
        s.first(value(1, 0, 99), value(2, 0, 99), value(3, 0, 99), value(1, 0, 0), value(2, 0, 0), value(2, 0, 7));
        return s.first(value(3, 0, 7), value(3, 0, 98), value(1, 0, 1));
    }

    private static void promise9TheIthFrom0On() {
        Story s = ranked("Promise 9: the most first, then by number, the i-th, from 0 on");
        s.due(99, top(0, 0)).due(0, top(0, 1)).due(7, top(0, 2)).due(1, top(0, 3)).due(98, top(0, 4));
        s.due(-1, top(0, 5));
        s.due(1, gone(2, 0, 0)).due(7, top(0, 1)).due(0, top(0, 2)).due(1, top(0, 3)).due(98, top(0, 4));
        s.due(1, gone(3, 0, 98)).due(1, top(0, 3)).due(-1, top(0, 4));
        s.due(2, hit(1, false)).due(7, top(0, 0)).due(99, top(0, 1)).due(-1, top(0, 2));
    }

    private static void promise9TheIthOfAHundred() {
        Story s = withHits("Promise 9: the i-th of a hundred", 1);
        for (int v = 99; v >= 0; v--) {
            s.due(100 - v, value(1, 5, v)).due(99, top(5, 99 - v));
        }
        for (int v = 0; v <= 99; v++) {
            s.due(v, top(5, v));
        }
        s.refused(-1, top(5, 100)).refused(-1, top(5, 101));
    }

    private static void promise9TheMostOf60() {
        Story s = withHits("Promise 9: the most first, 60 at most", 60);
        for (int r = 1; r <= 60; r++) {
            s.first(value(r, 0, 99));
            s.first(value(r, 0, r == 1 ? 0 : 98));
        }
        s.due(60, count(0, 99)).due(99, top(0, 0)).due(98, top(0, 1)).due(0, top(0, 2)).due(-1, top(0, 3));
        s.due(99, below(0, true, 0, 0)).due(98, below(0, true, 0, 1)).due(0, below(0, true, 0, 2));
        s.first(narrower(0, 99, 50)).due(50, top(0, 0)).due(99, top(0, 1)).due(99, below(0, false, 50, 0));
    }

    private static void promise9NoneSuch() {
        Story s = ranked("Promise 9: NONE if there is none such");
        int[] none = {MIN, MIN + 1, -2, -1, 5, 6, 100, MAX - 1, MAX};
        for (int i : none) {
            s.refused(-1, top(0, i));
        }
        for (int f : NO_FACETS) {
            s.refused(-1, top(f, 0)).refused(-1, top(f, 4)).refused(-1, top(f, -1)).refused(-1, top(f, MAX));
        }
        for (int f = 1; f <= 5; f++) {
            s.refused(-1, top(f, 0)).refused(-1, top(f, -1));
        }
        s.first(choose(1, 0)).refused(-1, top(0, 0)).first(choose(1, 0)).due(99, top(0, 0));
        s.first(hit(1, false), hit(2, false), hit(3, false)).refused(-1, top(0, 0)).refused(-1, top(0, -1));
    }

    /** As ranked, but 99 and 1 lie below 7, and 7 below 98: 7, 98 and 99 are had by three, 0 by two, 1 by one. */
    private static Story inATree(String sentence) {
        return ranked(sentence).first(narrower(0, 99, 7), narrower(0, 1, 7), narrower(0, 7, 98), narrower(0, 60, 98));
    }

    private static void promise10TheIthLikewise() {
        Story s = inATree("Promise 10: the i-th likewise");
        s.due(98, below(0, true, 0, 0)).due(0, below(0, true, 0, 1)).due(-1, below(0, true, 0, 2));
        s.due(99, below(0, false, 7, 0)).due(1, below(0, false, 7, 1)).due(-1, below(0, false, 7, 2));
        s.due(7, below(0, false, 98, 0)).due(-1, below(0, false, 98, 1)).due(-1, below(0, false, 99, 0));
        s.due(-1, below(0, false, 0, 0)).due(7, top(0, 0)).due(98, top(0, 1)).due(99, top(0, 2));
        s.first(narrower(0, 99, -1), narrower(0, 0, 99));
        s.due(98, below(0, true, 0, 0)).due(99, below(0, true, 0, 1)).due(0, below(0, false, 99, 0));
        s.due(1, below(0, false, 7, 0)).due(-1, below(0, false, 7, 1));
    }

    private static void promise10TheIthOfAHundred() {
        Story s = withHits("Promise 10: the i-th of a hundred", 1);
        for (int v = 0; v <= 99; v++) {
            s.first(value(1, 5, v));
        }
        for (int v = 0; v <= 99; v++) {
            s.due(v, below(5, true, 0, v));
        }
        s.refused(-1, below(5, true, 0, 100));
        for (int v = 0; v <= 99; v++) {
            s.first(narrower(5, v, v == 50 ? -1 : 50));
        }
        for (int i = 0; i <= 98; i++) {
            s.due(i < 50 ? i : i + 1, below(5, false, 50, i));
        }
        s.refused(-1, below(5, false, 50, 99)).due(50, below(5, true, 0, 0)).refused(-1, below(5, true, 0, 1));
    }

    private static void promise10NoneSuch() {
        Story s = inATree("Promise 10: NONE if there is none such");
        int[] none = {MIN, MIN + 1, -2, -1, 2, 3, 100, MAX - 1, MAX};
        for (int i : none) {
            s.refused(-1, below(0, true, 0, i)).refused(-1, below(0, false, 7, i)).refused(-1, below(0, false, 98, i));
        }
        for (int f : NO_FACETS) {
            s.refused(-1, below(f, true, 0, 0)).refused(-1, below(f, false, 7, 0)).refused(-1, below(f, true, 0, -1));
        }
        for (int v : NO_VALUES) {
            s.refused(-1, below(0, false, v, 0)).refused(-1, below(0, false, v, 1)).refused(-1, below(1, false, v, 0));
        }
        s.refused(-1, below(0, false, 0, 0)).refused(-1, below(0, false, 60, 0)).refused(-1, below(1, true, 0, 0));
        s.refused(-1, below(5, true, 99, 0)).refused(-1, below(5, false, 99, 0));
        s.first(choose(5, 5)).refused(-1, below(0, true, 0, 0)).refused(-1, below(0, false, 7, 0));
        s.first(choose(5, 5)).due(98, below(0, true, 0, 0)).due(99, below(0, false, 7, 0));
    }

    private static void promise10VDoesNotMatterIfRootsIsTrue() {
        Story s = inATree("Promise 10: v does not matter if roots is true");
        int[] any = {MIN, -2, -1, 0, 7, 50, 98, 99, 100, MAX};
        for (int v : any) {
            s.due(98, below(0, true, v, 0)).due(0, below(0, true, v, 1)).due(-1, below(0, true, v, 2));
            s.due(-1, below(0, true, v, -1)).due(-1, below(1, true, v, 0)).due(-1, below(6, true, v, 0));
        }
    }

    /** Of facet 0 the hit 1 has 0 and 50, the hit 2 has 99. */
    private static Story banded(String sentence) {
        Story s = withHits(sentence, 3).first(value(1, 0, 0), value(1, 0, 50), value(2, 0, 99));
        return s.first(value(1, 1, 0), value(1, 5, 99));
    }

    private static void promise11NoSuchFacet() {
        Story s = banded("Promise 11: NONE if there is no such facet");
        for (int f : NO_FACETS) {
            s.refused(-1, band(f, 0, 99)).refused(-1, band(f, MIN, MAX)).refused(-1, band(f, 0, 0));
            s.refused(-1, band(f, 1, 0)).refused(-1, band(f, -100, -1)).refused(-1, band(f, 100, 199));
        }
        s.due(2, band(0, 0, 99)).due(1, band(1, 0, 99)).due(0, band(2, 0, 99)).due(1, band(5, 0, 99));
    }

    private static void promise11ToIsBelowFrom() {
        Story s = banded("Promise 11: NONE if to is below from");
        int[] from = {MIN + 1, -1, 0, 1, 50, 51, 99, 100, 101, 150, MAX, MAX, MAX, 0, -1};
        int[] to = {MIN, -2, -1, 0, 49, 50, 98, 99, 100, 120, MAX - 1, MIN, 0, MIN, MIN};
        for (int n = 0; n < from.length; n++) {
            s.refused(-1, band(0, from[n], to[n])).refused(-1, band(3, from[n], to[n]));
        }
        s.due(1, band(0, 0, 0)).due(1, band(0, 50, 50)).due(1, band(0, 99, 99)).due(0, band(0, 51, 51));
        s.due(0, band(0, MIN, MIN)).due(0, band(0, MAX, MAX)).due(0, band(0, -1, -1)).due(0, band(0, 100, 100));
        s.due(0, band(1, -1, -1)).due(0, band(0, 100, 199)).due(0, band(1, -50, -1)).due(0, band(5, 100, MAX));
        s.due(2, band(0, MIN, MAX)).due(1, band(0, MIN, 0)).due(0, band(0, MIN, -1)).due(1, band(0, 99, MAX));
        s.due(2, band(0, -1, 100)).due(2, band(0, 0, 100)).due(2, band(0, -1, 99)).due(2, band(0, 50, 99));
        s.due(1, band(0, 1, 98)).due(0, band(0, 51, 98));
        s.first(choose(3, 3)).due(0, band(0, 0, 99)).refused(-1, band(0, 99, 0)).refused(-1, band(6, 0, 99));
    }

    private static void promise12ZeroIsZeroOfOne() {
        for (int n = 1; n <= 60; n++) {
            Story s = withHits("Promise 12: (0 is 0 / 1)", n);
            s.due(0, share(0, 0, 0)).due(1, share(0, 0, 1)).due(0, share(5, 99, 0)).due(1, share(5, 99, 1));
        }
    }

    private static void promise12LeastTerms() {
        for (int all = 1; all <= 60; all++) {
            Story s = withHits("Promise 12: in least terms, " + all + " hits", all);
            for (int part = 1; part <= all; part++) {
                int common = commonDivisor(part, all);
                s.first(value(part, 0, 99)).due(part / common, share(0, 99, 0)).due(all / common, share(0, 99, 1));
            }
        }
        Story s = withHits("Promise 12: of all that are LEFT", 3);
        s.first(value(1, 0, 0), value(2, 0, 0), value(1, 1, 1));
        s.due(2, share(0, 0, 0)).due(3, share(0, 0, 1));
        s.first(choose(0, 0)).due(1, share(0, 0, 0)).due(1, share(0, 0, 1));
        s.due(1, share(1, 1, 0)).due(2, share(1, 1, 1)).due(0, share(2, 2, 0)).due(1, share(2, 2, 1));
    }

    private static int commonDivisor(int a, int b) {
        return b == 0 ? a : commonDivisor(b, a % b);
    }

    private static void promise12AnySide() {
        Story s = withHits("Promise 12: side 0 what is above, else what is below the line", 3).first(value(2, 0, 0));
        int[] others = {MIN, -2, -1, 1, 2, 3, 256, 65536, MAX};
        s.due(1, share(0, 0, 0));
        for (int side : others) {
            s.due(3, share(0, 0, side)).due(1, share(0, 1, side)).due(-1, share(0, 100, side));
        }
        s.due(0, share(0, 1, 0));
    }

    private static void promise12NoSuchFacetOrValue() {
        Story s = withHits("Promise 12: NONE if there is no such facet or value", 2);
        s.first(value(1, 0, 0), value(1, 0, 4), value(1, 0, 96), value(1, 1, 99), value(1, 5, 99));
        allNone(s);
        // Without a hit that is LEFT too: there is no share that could lack a hit.
        s.first(choose(2, 2));
        allNone(s);
        allNone(story("Promise 12: NONE if there is no such facet or value, without a record"));
    }

    private static void allNone(Story s) {
        for (int f : NO_FACETS) {
            s.refused(-1, share(f, 0, 0)).refused(-1, share(f, 99, 1)).refused(-1, share(f, 100, 0));
        }
        for (int v : NO_VALUES) {
            s.refused(-1, share(0, v, 0)).refused(-1, share(1, v, 1)).refused(-1, share(5, v, MAX));
        }
    }

    private static void promise12NoHitIsLeft() {
        Story s = story("Promise 12: ArithmeticException if no hit is LEFT");
        s.refused(Call.THROWS, share(0, 0, 0)).refused(Call.THROWS, share(5, 99, 1));
        s.first(record(), value(1, 0, 5)).refused(Call.THROWS, share(0, 5, 0)).refused(Call.THROWS, share(0, 6, 0));
        s.first(hit(1, true)).due(1, share(0, 5, 0)).due(0, share(0, 6, 0));
        s.first(choose(0, 6)).refused(Call.THROWS, share(0, 5, 0)).refused(Call.THROWS, share(0, 6, 1));
        s.refused(Call.THROWS, share(5, 0, MIN)).refused(Call.THROWS, share(5, 0, MAX));
        s.refused(Call.THROWS, share(0, 5, -1));
        s.first(choose(0, 5)).due(1, share(0, 5, 1)).first(hit(1, false)).refused(Call.THROWS, share(0, 5, 1));
        s.first(hit(1, true)).due(1, share(0, 5, 1)).first(gone(1, 0, 5)).refused(Call.THROWS, share(0, 5, 1));
        s.first(narrower(0, 4, 5), value(1, 0, 4)).due(1, share(0, 5, 0)).first(narrower(0, 4, -1));
        s.refused(Call.THROWS, share(0, 4, 0)).refused(Call.THROWS, share(0, 5, 0));
    }

    private static void promise13NoSuchFacet() {
        Story s = withHits("Promise 13: NONE if there is no such facet", 3).first(record());
        s.first(value(1, 0, 0), value(2, 0, 99), value(1, 5, 99), value(3, 1, 50), value(4, 5, 0));
        for (int f : NO_FACETS) {
            s.refused(-1, missing(f));
        }
        s.due(1, missing(0)).due(2, missing(1)).due(3, missing(2)).due(3, missing(3)).due(3, missing(4));
        s.due(2, missing(5)).first(choose(2, 2)).due(0, missing(0)).due(0, missing(5));
        s.refused(-1, missing(6)).refused(-1, missing(-1));
        Story empty = story("Promise 13: NONE, not 0, without a record").due(0, missing(0)).due(0, missing(5));
        empty.refused(-1, missing(6)).refused(-1, missing(-1)).refused(-1, missing(MIN)).refused(-1, missing(MAX));
    }

    private static void promise14TheIthFrom0On() {
        Story s = story("Promise 14: the i-th, from 0 on, by numbers");
        for (int n = 1; n <= 60; n++) {
            s.first(record());
        }
        for (int r = 60; r >= 1; r--) {
            s.first(hit(r, true)).due(r, left(0)).due(60, left(60 - r)).due(0, left(61 - r));
        }
        for (int i = 0; i < 60; i++) {
            s.due(i + 1, left(i));
        }
        s.refused(0, left(60)).refused(0, left(61)).refused(0, left(-1));
        s.first(hit(1, false), hit(30, false)).due(2, left(0)).due(29, left(27)).due(31, left(28)).due(60, left(57));
        s.due(0, left(58));
    }

    private static void promise14NoneSuch() {
        Story s = withHits("Promise 14: 0 if there is none such", 3).first(value(1, 0, 0), value(3, 0, 0));
        int[] none = {MIN, MIN + 1, -2, -1, 3, 4, 60, 61, 64, MAX - 1, MAX};
        for (int i : none) {
            s.refused(0, left(i));
        }
        s.due(3, left(2)).first(choose(0, 0)).due(1, left(0)).due(3, left(1)).refused(0, left(2)).refused(0, left(-1));
        s.first(choose(1, 1)).refused(0, left(0)).refused(0, left(-1)).refused(0, left(MIN)).refused(0, left(MAX));
        Story empty = story("Promise 14: 0 if there is none such, without a record");
        empty.refused(0, left(0)).refused(0, left(1)).refused(0, left(-1)).refused(0, left(MIN)).refused(0, left(MAX));
    }
}
