/** A method for each promise of the document: ordinary inputs, its edges, wrong inputs. */
public final class PromisesTest {
    private static final Due due = new Due();
    private static final int MIN = Integer.MIN_VALUE;
    private static final int MAX = Integer.MAX_VALUE;
    private static final int[] NO_FACETS = {MIN, -1, 6, MAX};
    private static final int[] NO_VALUES = {MIN, -2, -1, 100, MAX};

    public static void main(String[] args) {
        promise1NewObject();
        promise2Record();
        promise3Value();
        promise3FourHundred();
        promise4Gone();
        promise5Narrower();
        promise5Rings();
        promise6Hit();
        promise7Choose();
        promise8Count();
        promise9Top();
        promise10Below();
        promise11Band();
        promise12Share();
        promise13Missing();
        promise14Left();
        due.end();
    }

    private static FacetRows withRecords(int n) {
        FacetRows x = new FacetRows();
        for (int i = 0; i < n; i++) {
            x.record();
        }
        return x;
    }

    private static FacetRows withHits(int n) {
        FacetRows x = withRecords(n);
        for (int r = 1; r <= n; r++) {
            x.hit(r, true);
        }
        return x;
    }

    private static void promise1NewObject() {
        due.part("promise 1");
        FacetRows x = new FacetRows();
        due.is("NONE", FacetRows.NONE, -1);
        due.is("hit(1, true) without records", x.hit(1, true), -1);
        due.is("value(1, 0, 0) without records", x.value(1, 0, 0), 0);
        due.is("left(0)", x.left(0), 0);
        for (int facet = 0; facet < 6; facet++) {
            due.is("top", x.top(facet, 0), -1);
            due.is("below roots", x.below(facet, true, 0, 0), -1);
            due.is("missing", x.missing(facet), 0);
            due.is("band", x.band(facet, 0, 99), 0);
            due.is("count 0", x.count(facet, 0), 0);
            due.is("count 99", x.count(facet, 99), 0);
        }
        due.shareThrows(x, 0, 0, 0);
        due.is("first record()", x.record(), 1);
        due.is("a record is no hit at first", x.left(0), 0);
        due.is("hit(1, true): the first hit", x.hit(1, true), 1);
        due.is("nothing is chosen", x.left(0), 1);
        x.value(1, 0, 1);
        due.is("no tree: 0 has nothing below it", x.count(0, 0), 0);
        due.is("no tree: 1 is a root", x.below(0, true, 0, 0), 1);

        FacetRows other = new FacetRows();
        due.is("objects share nothing", other.record(), 1);
        due.is("objects share no hits", other.left(0), 0);
    }

    private static void promise2Record() {
        due.part("promise 2");
        FacetRows x = new FacetRows();
        for (int n = 1; n <= 60; n++) {
            due.is("record() " + n, x.record(), n);
        }
        due.is("record() 61", x.record(), 0);
        due.is("record() 62", x.record(), 0);
        due.is("hit(61, true)", x.hit(61, true), -1);
        due.is("value(61, 0, 0)", x.value(61, 0, 0), 0);
        due.is("hit(60, true)", x.hit(60, true), 1);
        for (int facet = 0; facet < 6; facet++) {
            due.is("a record comes without values", x.missing(facet), 1);
        }
        due.is("value(60, 5, 99)", x.value(60, 5, 99), 1);
    }

    private static void promise3Value() {
        due.part("promise 3");
        FacetRows x = withRecords(2);
        due.is("value(1, 0, 0)", x.value(1, 0, 0), 1);
        due.is("value(1, 0, 99)", x.value(1, 0, 99), 2);
        due.is("value(1, 0, 99) again", x.value(1, 0, 99), 0);
        due.is("value(1, 0, 50)", x.value(1, 0, 50), 3);
        due.is("value(1, 5, 99): another facet", x.value(1, 5, 99), 1);
        due.is("value(2, 0, 99): another record", x.value(2, 0, 99), 1);
        int[] noRecords = {MIN, -1, 0, 3, 61, 64, 65, MAX};
        for (int r : noRecords) {
            due.is("value(" + r + ", 0, 1)", x.value(r, 0, 1), 0);
        }
        for (int f : NO_FACETS) {
            due.is("value(1, " + f + ", 1)", x.value(1, f, 1), 0);
        }
        for (int v : NO_VALUES) {
            due.is("value(1, 0, " + v + ")", x.value(1, 0, v), 0);
        }
        due.is("what was refused left nothing", x.value(1, 0, 51), 4);
        due.is("what was refused left nothing", x.value(1, 1, 0), 1);

        x = withHits(1);
        x.narrower(0, 6, 5);
        due.is("value(1, 0, 6)", x.value(1, 0, 6), 1);
        due.is("having by the tree is no value of its own", x.value(1, 0, 5), 2);
        x.gone(1, 0, 6);
        due.is("its own value stays", x.count(0, 5), 1);
    }

    private static void promise3FourHundred() {
        due.part("promise 3, 400 in all");
        FacetRows x = withHits(5);
        for (int n = 0; n < 400; n++) {
            due.is("value " + n, x.value(1 + n % 4, n / 100, n % 100), 1 + n % 100 / 4);
        }
        due.is("value(1, 5, 0) with 400", x.value(1, 5, 0), 0);
        due.is("value(5, 5, 0) with 400", x.value(5, 5, 0), 0);
        due.is("missing(5): nothing happened", x.missing(5), 5);
        due.is("gone(1, 0, 0)", x.gone(1, 0, 0), true);
        due.is("gone(1, 0, 0) again frees nothing", x.gone(1, 0, 0), false);
        due.is("value(5, 5, 0) with 399", x.value(5, 5, 0), 1);
        due.is("value(5, 5, 1) with 400", x.value(5, 5, 1), 0);

        x = withRecords(1);
        for (int n = 0; n < 400; n++) {
            due.is("one record, value " + n, x.value(1, n / 100, n % 100), 1 + n % 100);
        }
        due.is("one record, value 401", x.value(1, 4, 0), 0);

        x = withRecords(1);
        for (int n = 0; n < 410; n++) {
            x.value(1, 0, 0);
            if (n % 5 == 0) {
                x.value(1, 6, 0);
            }
        }
        due.is("refused ones do not count", x.value(1, 0, 1), 2);
    }

    private static void promise4Gone() {
        due.part("promise 4");
        FacetRows x = withHits(2);
        x.value(1, 0, 5);
        x.value(1, 0, 6);
        x.value(2, 0, 5);
        x.value(1, 1, 5);
        due.is("gone(1, 0, 7)", x.gone(1, 0, 7), false);
        due.is("gone(2, 0, 6)", x.gone(2, 0, 6), false);
        due.is("gone(1, 0, 5)", x.gone(1, 0, 5), true);
        due.is("gone(1, 0, 5) again", x.gone(1, 0, 5), false);
        due.is("count(0, 5): the other record's stays", x.count(0, 5), 1);
        due.is("count(0, 6): the other value stays", x.count(0, 6), 1);
        due.is("count(1, 5): the other facet's stays", x.count(1, 5), 1);
        due.is("value(1, 0, 5) comes back", x.value(1, 0, 5), 2);
        int[] noRecords = {MIN, -1, 0, 3, 65, 66, MAX};
        for (int r : noRecords) {
            due.is("gone(" + r + ", 0, 5)", x.gone(r, 0, 5), false);
        }
        for (int f : NO_FACETS) {
            due.is("gone(1, " + f + ", 5)", x.gone(1, f, 5), false);
        }
        for (int v : NO_VALUES) {
            due.is("gone(1, 0, " + v + ")", x.gone(1, 0, v), false);
        }
        due.is("gone(1, 1, 5)", x.gone(1, 1, 5), true);
        due.is("missing(1)", x.missing(1), 2);

        x = withHits(1);
        x.narrower(0, 2, 1);
        x.narrower(0, 3, 1);
        x.value(1, 0, 2);
        x.value(1, 0, 3);
        due.is("gone(1, 0, 1): had by the tree only", x.gone(1, 0, 1), false);
        due.is("gone(1, 0, 2)", x.gone(1, 0, 2), true);
        due.is("count(0, 1): still had by 3", x.count(0, 1), 1);
        due.is("gone(1, 0, 3)", x.gone(1, 0, 3), true);
        due.is("count(0, 1): had no more", x.count(0, 1), 0);
        due.is("a record that is no hit can lose too", withLoss(), true);
    }

    private static boolean withLoss() {
        FacetRows x = withRecords(1);
        x.value(1, 2, 3);
        return x.gone(1, 2, 3);
    }

    private static void promise5Narrower() {
        due.part("promise 5");
        FacetRows x = withHits(2);
        x.value(1, 0, 3);
        due.is("narrower(0, 3, 2)", x.narrower(0, 3, 2), 1);
        due.is("narrower(0, 2, 1)", x.narrower(0, 2, 1), 1);
        due.is("count(0, 1)", x.count(0, 1), 1);
        due.is("count(1, 2): a facet has its own tree", x.count(1, 2), 0);
        due.is("narrower(0, 3, 2) again", x.narrower(0, 3, 2), 1);
        due.is("narrower(0, 3, 9): it moves", x.narrower(0, 3, 9), 1);
        due.is("count(0, 1)", x.count(0, 1), 0);
        due.is("count(0, 2)", x.count(0, 2), 0);
        due.is("count(0, 9)", x.count(0, 9), 1);
        due.is("narrower(0, 9, 1): with its branch", x.narrower(0, 9, 1), 1);
        due.is("count(0, 1)", x.count(0, 1), 1);
        due.is("narrower(0, 9, -1)", x.narrower(0, 9, -1), 1);
        due.is("narrower(0, 9, -1) again", x.narrower(0, 9, -1), 1);
        due.is("count(0, 1)", x.count(0, 1), 0);
        due.is("count(0, 9)", x.count(0, 9), 1);
        due.is("narrower(5, 99, 0)", x.narrower(5, 99, 0), 1);
        due.is("narrower(4, 0, 99)", x.narrower(4, 0, 99), 1);
        for (int f : NO_FACETS) {
            due.is("narrower(" + f + ", 1, 2)", x.narrower(f, 1, 2), 0);
            due.is("narrower(" + f + ", 1, -1)", x.narrower(f, 1, -1), 0);
        }
        for (int v : NO_VALUES) {
            due.is("narrower(0, " + v + ", 2)", x.narrower(0, v, 2), 0);
            due.is("narrower(0, " + v + ", -1)", x.narrower(0, v, -1), 0);
            if (v != -1) {
                due.is("narrower(0, 3, " + v + ")", x.narrower(0, 3, v), 0);
            }
        }
        due.is("it stays as it is", x.count(0, 9), 1);
        due.is("it stays as it is", x.below(0, false, 9, 0), 3);
    }

    private static void promise5Rings() {
        due.part("promise 5, rings");
        FacetRows x = withHits(1);
        due.is("narrower(0, 5, 5)", x.narrower(0, 5, 5), 0);
        due.is("narrower(0, 0, 0)", x.narrower(0, 0, 0), 0);
        for (int v = 1; v < 100; v++) {
            due.is("chain " + v, x.narrower(0, v, v - 1), 1);
        }
        due.is("the longest ring", x.narrower(0, 0, 99), 0);
        due.is("a ring in the middle", x.narrower(0, 40, 60), 0);
        due.is("a ring of two", x.narrower(0, 0, 1), 0);
        due.is("value(1, 0, 99)", x.value(1, 0, 99), 1);
        due.is("depth 99", x.count(0, 0), 1);
        due.is("refused rings changed nothing", x.below(0, true, 0, 0), 0);
        due.is("refused rings changed nothing", x.below(0, false, 39, 0), 40);
        due.is("no ring in another facet", x.narrower(1, 0, 99), 1);
        due.is("up within the chain is no ring", x.narrower(0, 60, 40), 1);
        due.is("now that 50 is not above 60", x.narrower(0, 50, 60), 1);
        due.is("count(0, 50)", x.count(0, 50), 0);
        due.is("count(0, 40)", x.count(0, 40), 1);
    }

    private static void promise6Hit() {
        due.part("promise 6");
        FacetRows x = withRecords(60);
        for (int r = 60; r >= 1; r--) {
            due.is("hit(" + r + ", true)", x.hit(r, true), 61 - r);
        }
        due.is("hit(60, true) again", x.hit(60, true), 60);
        due.is("hit(1, false)", x.hit(1, false), 59);
        due.is("hit(1, false) again", x.hit(1, false), 59);
        due.is("hit(60, false)", x.hit(60, false), 58);
        due.is("hit(1, true)", x.hit(1, true), 59);
        due.is("choose(0, 0)", x.choose(0, 0), 0);
        due.is("all hits, not those left", x.hit(2, false), 58);
        int[] noRecords = {MIN, -1, 0, 61, 64, 65, MAX};
        for (int r : noRecords) {
            due.is("hit(" + r + ", true)", x.hit(r, true), -1);
            due.is("hit(" + r + ", false)", x.hit(r, false), -1);
        }
        due.is("hit(3, false)", x.hit(3, false), 57);

        x = withRecords(1);
        due.is("hit(2, true): not yet", x.hit(2, true), -1);
        x.record();
        due.is("left(0): it was no hit", x.left(0), 0);
        due.is("hit(2, true)", x.hit(2, true), 1);
    }

    private static void promise7Choose() {
        due.part("promise 7");
        FacetRows x = withHits(4);
        x.record();
        x.value(5, 0, 1);
        x.value(1, 0, 1);
        x.value(2, 0, 2);
        x.value(3, 0, 1);
        x.value(3, 1, 7);
        x.value(2, 1, 7);
        due.is("choose(0, 1)", x.choose(0, 1), 2);
        due.is("choose(0, 2): one of them is enough", x.choose(0, 2), 3);
        due.is("choose(1, 7): each facet asks", x.choose(1, 7), 2);
        due.is("choose(5, 99): nobody has it", x.choose(5, 99), 0);
        due.is("choose(5, 99) no more", x.choose(5, 99), 2);
        due.is("choose(0, 1) no more", x.choose(0, 1), 1);
        due.is("choose(0, 2) no more", x.choose(0, 2), 2);
        due.is("choose(1, 7) no more", x.choose(1, 7), 4);
        for (int f : NO_FACETS) {
            due.is("choose(" + f + ", 0)", x.choose(f, 0), -1);
        }
        for (int v : NO_VALUES) {
            due.is("choose(0, " + v + ")", x.choose(0, v), -1);
            due.is("choose(1, " + v + ")", x.choose(1, v), -1);
        }
        due.is("nothing was chosen by that", x.left(3), 4);

        due.is("choose(0, 9)", x.choose(0, 9), 0);
        x.narrower(0, 1, 8);
        x.narrower(0, 8, 9);
        due.is("left(0): the tree counts, as it is now", x.left(0), 1);
        due.is("left(1)", x.left(1), 3);
        x.narrower(0, 8, -1);
        due.is("left(0): it is no longer below", x.left(0), 0);
        due.is("choose(0, 1): below what is chosen", x.choose(0, 1), 2);
        due.is("choose(0, 9): others stay chosen", x.choose(0, 9), 2);
    }

    private static void promise8Count() {
        due.part("promise 8");
        FacetRows x = withHits(3);
        x.record();
        for (int r = 1; r <= 4; r++) {
            x.value(r, 0, 10 + r);
            x.narrower(0, 10 + r, 9 + r);
        }
        due.is("count(0, 10): the hits, at any depth", x.count(0, 10), 3);
        due.is("count(0, 12)", x.count(0, 12), 2);
        due.is("count(0, 14): no hit", x.count(0, 14), 0);
        x.value(3, 0, 12);
        due.is("count(0, 12): a record counts once", x.count(0, 12), 2);
        x.choose(0, 13);
        due.is("count(0, 12): those left, for the same facet too", x.count(0, 12), 1);
        x.value(1, 3, 99);
        due.is("count(3, 99): not left", x.count(3, 99), 0);
        x.choose(0, 13);
        due.is("count(3, 99)", x.count(3, 99), 1);
        due.is("count(3, 98)", x.count(3, 98), 0);
        for (int f : NO_FACETS) {
            due.is("count(" + f + ", 0)", x.count(f, 0), -1);
        }
        for (int v : NO_VALUES) {
            due.is("count(0, " + v + ")", x.count(0, v), -1);
            due.is("count(3, " + v + ")", x.count(3, v), -1);
        }
    }

    private static void promise9Top() {
        due.part("promise 9");
        FacetRows x = withHits(3);
        x.record();
        x.value(1, 0, 99);
        x.value(2, 0, 99);
        x.value(1, 0, 0);
        x.value(3, 0, 40);
        x.value(1, 0, 40);
        x.value(2, 0, 7);
        x.value(4, 0, 3);
        tops(x, 0, 40, 99, 0, 7);
        tops(x, 1);
        x.value(3, 0, 7);
        x.value(1, 0, 7);
        tops(x, 0, 7, 40, 99, 0);
        x.narrower(0, 40, 50);
        x.narrower(0, 99, 50);
        tops(x, 0, 7, 50, 40, 99, 0);
        x.choose(0, 99);
        tops(x, 0, 7, 50, 99, 0, 40);
        x.choose(1, 0);
        tops(x, 0);
        x.choose(1, 0);
        x.choose(0, 99);
        due.is("top(0, -1)", x.top(0, -1), -1);
        due.is("top(0, MIN)", x.top(0, MIN), -1);
        due.is("top(0, MAX)", x.top(0, MAX), -1);
        for (int f : NO_FACETS) {
            due.is("top(" + f + ", 0)", x.top(f, 0), -1);
        }

        x = withHits(1);
        for (int v = 0; v < 100; v++) {
            x.value(1, 5, 99 - v);
        }
        for (int v = 0; v < 100; v++) {
            due.is("all hundred, by number", x.top(5, v), v);
        }
        due.is("top(5, 100)", x.top(5, 100), -1);

        x = withHits(60);
        for (int r = 1; r <= 60; r++) {
            x.value(r, 2, 8);
        }
        x.value(1, 2, 4);
        tops(x, 2, 8, 4);
    }

    private static void tops(FacetRows x, int facet, int... wanted) {
        for (int i = 0; i < wanted.length; i++) {
            due.is("top(" + facet + ", " + i + ")", x.top(facet, i), wanted[i]);
        }
        due.is("top behind the last", x.top(facet, wanted.length), -1);
    }

    private static void promise10Below() {
        due.part("promise 10");
        FacetRows x = withHits(4);
        x.narrower(0, 20, 10);
        x.narrower(0, 21, 10);
        x.narrower(0, 22, 10);
        x.narrower(0, 30, 21);
        x.narrower(0, 31, 11);
        x.value(1, 0, 22);
        x.value(2, 0, 22);
        x.value(3, 0, 30);
        x.value(1, 0, 20);
        x.value(4, 0, 2);
        x.value(1, 0, 2);
        x.value(2, 0, 2);
        x.value(4, 0, 1);
        x.value(4, 0, 0);
        belows(x, true, 0, 2, 10, 0, 1);
        belows(x, true, 77, 2, 10, 0, 1);
        belows(x, true, -1, 2, 10, 0, 1);
        belows(x, true, MAX, 2, 10, 0, 1);
        belows(x, true, MIN, 2, 10, 0, 1);
        belows(x, true, 10, 2, 10, 0, 1);
        belows(x, false, 10, 22, 20, 21);
        belows(x, false, 21, 30);
        belows(x, false, 30);
        belows(x, false, 11);
        for (int v : NO_VALUES) {
            belows(x, false, v);
        }
        for (int f : NO_FACETS) {
            due.is("below(" + f + ", true, 0, 0)", x.below(f, true, 0, 0), -1);
            due.is("below(" + f + ", false, 10, 0)", x.below(f, false, 10, 0), -1);
        }
        due.is("below(0, true, 0, -1)", x.below(0, true, 0, -1), -1);
        due.is("below(0, false, 10, -1)", x.below(0, false, 10, -1), -1);
        due.is("below(0, true, 0, MAX)", x.below(0, true, 0, MAX), -1);
        due.is("below(0, false, 10, MIN)", x.below(0, false, 10, MIN), -1);
        due.is("below(1, true, 0, 0)", x.below(1, true, 0, 0), -1);
        x.choose(0, 21);
        belows(x, true, 0, 10);
        belows(x, false, 10, 21);
        due.is("top is as before after below", x.top(0, 1), 21);
    }

    private static void belows(FacetRows x, boolean roots, int v, int... wanted) {
        for (int i = 0; i < wanted.length; i++) {
            due.is("below(0, " + roots + ", " + v + ", " + i + ")", x.below(0, roots, v, i), wanted[i]);
        }
        due.is("below(0, " + roots + ", " + v + ", ..) behind the last", x.below(0, roots, v, wanted.length), -1);
    }

    private static void promise11Band() {
        due.part("promise 11");
        FacetRows x = withHits(3);
        x.record();
        x.value(1, 0, 0);
        x.value(1, 0, 50);
        x.value(2, 0, 50);
        x.value(3, 0, 99);
        x.value(4, 0, 50);
        due.is("band(0, 50, 50)", x.band(0, 50, 50), 2);
        due.is("band(0, 49, 51)", x.band(0, 49, 51), 2);
        due.is("band(0, 51, 98)", x.band(0, 51, 98), 0);
        due.is("band(0, 51, 99): both ends belong to it", x.band(0, 51, 99), 1);
        due.is("band(0, 0, 49)", x.band(0, 0, 49), 1);
        due.is("band(0, 0, 50): once each", x.band(0, 0, 50), 2);
        due.is("band(0, 0, 99)", x.band(0, 0, 99), 3);
        due.is("band(0, MIN, MAX)", x.band(0, MIN, MAX), 3);
        due.is("band(0, MIN, 0)", x.band(0, MIN, 0), 1);
        due.is("band(0, 99, MAX)", x.band(0, 99, MAX), 1);
        due.is("band(0, MIN, -1)", x.band(0, MIN, -1), 0);
        due.is("band(0, 100, MAX)", x.band(0, 100, MAX), 0);
        due.is("band(0, MAX, MAX)", x.band(0, MAX, MAX), 0);
        due.is("band(0, MIN, MIN)", x.band(0, MIN, MIN), 0);
        due.is("band(0, 51, 50)", x.band(0, 51, 50), -1);
        due.is("band(0, MAX, MIN)", x.band(0, MAX, MIN), -1);
        due.is("band(0, 200, 100)", x.band(0, 200, 100), -1);
        due.is("band(1, 0, 99)", x.band(1, 0, 99), 0);
        for (int f : NO_FACETS) {
            due.is("band(" + f + ", 0, 99)", x.band(f, 0, 99), -1);
        }
        x.narrower(0, 99, 98);
        due.is("band(0, 98, 98): no tree", x.band(0, 98, 98), 0);
        x.choose(0, 98);
        due.is("band(0, 0, 99): those left", x.band(0, 0, 99), 1);
        due.is("band(0, 0, 50): those left", x.band(0, 0, 50), 0);
    }

    private static void promise12Share() {
        due.part("promise 12");
        FacetRows x = withRecords(12);
        due.shareThrows(x, 0, 0, 0);
        due.shareThrows(x, 5, 99, 1);
        due.is("share(6, 0, 0): NONE before the throw", x.share(6, 0, 0), -1);
        due.is("share(0, 100, 1): NONE before the throw", x.share(0, 100, 1), -1);
        due.is("share(0, -1, 1): NONE before the throw", x.share(0, -1, 1), -1);
        for (int r = 1; r <= 12; r++) {
            x.hit(r, true);
        }
        shares(x, 0, 1, 0, 1);
        int[][] least = {{1, 12}, {1, 6}, {1, 4}, {1, 3}, {5, 12}, {1, 2},
            {7, 12}, {2, 3}, {3, 4}, {5, 6}, {11, 12}, {1, 1}};
        x.narrower(0, 2, 1);
        for (int r = 1; r <= 12; r++) {
            x.value(r, 0, 2);
            shares(x, 0, 1, least[r - 1][0], least[r - 1][1]);
        }
        x.value(1, 1, 5);
        x.value(2, 1, 5);
        x.value(3, 1, 5);
        x.value(3, 2, 9);
        x.choose(1, 5);
        shares(x, 2, 9, 1, 3);
        shares(x, 0, 1, 1, 1);
        for (int f : NO_FACETS) {
            shares(x, f, 1, -1, -1);
        }
        for (int v : NO_VALUES) {
            shares(x, 0, v, -1, -1);
        }
        x.choose(1, 6);
        x.choose(1, 5);
        due.shareThrows(x, 0, 1, 0);
        due.shareThrows(x, 0, 1, -7);
        due.is("a throw changes nothing", x.choose(1, 6), 12);

        x = withHits(60);
        for (int r = 1; r <= 59; r++) {
            x.value(r, 0, 0);
        }
        shares(x, 0, 0, 59, 60);
        x.gone(59, 0, 0);
        shares(x, 0, 0, 29, 30);
    }

    private static void shares(FacetRows x, int facet, int v, long above, long under) {
        String call = "share(" + facet + ", " + v + ", ";
        due.is(call + "0)", x.share(facet, v, 0), above);
        int[] sides = {1, 2, -1, MIN, MAX};
        for (int side : sides) {
            due.is(call + side + ")", x.share(facet, v, side), under);
        }
    }

    private static void promise13Missing() {
        due.part("promise 13");
        FacetRows x = withHits(3);
        x.record();
        due.is("missing(0)", x.missing(0), 3);
        x.value(1, 0, 0);
        due.is("missing(0)", x.missing(0), 2);
        x.value(2, 0, 99);
        due.is("missing(0)", x.missing(0), 1);
        due.is("missing(1)", x.missing(1), 3);
        due.is("missing(5)", x.missing(5), 3);
        x.value(2, 0, 98);
        x.gone(2, 0, 99);
        due.is("missing(0): one value is enough", x.missing(0), 1);
        x.choose(0, 98);
        due.is("missing(0): of those left", x.missing(0), 0);
        due.is("missing(1): of those left", x.missing(1), 1);
        x.choose(0, 97);
        x.choose(0, 98);
        due.is("missing(1): none left", x.missing(1), 0);
        for (int f : NO_FACETS) {
            due.is("missing(" + f + ")", x.missing(f), -1);
        }
    }

    private static void promise14Left() {
        due.part("promise 14");
        FacetRows x = withRecords(60);
        due.is("left(0) without hits", x.left(0), 0);
        x.hit(60, true);
        x.hit(1, true);
        x.hit(31, true);
        x.hit(33, true);
        lefts(x, 1, 31, 33, 60);
        x.value(60, 3, 4);
        x.value(31, 3, 5);
        x.value(2, 3, 4);
        x.choose(3, 4);
        lefts(x, 60);
        x.choose(3, 5);
        lefts(x, 31, 60);
        x.choose(2, 5);
        lefts(x);
        x.choose(2, 5);
        x.hit(31, false);
        lefts(x, 60);
        due.is("left(-1)", x.left(-1), 0);
        due.is("left(MIN)", x.left(MIN), 0);
        due.is("left(MAX)", x.left(MAX), 0);
    }

    private static void lefts(FacetRows x, int... wanted) {
        for (int i = 0; i < wanted.length; i++) {
            due.is("left(" + i + ")", x.left(i), wanted[i]);
        }
        due.is("left behind the last", x.left(wanted.length), 0);
    }
}
