/** What the tests of the document's boundaries share. */
abstract class Edges extends Calls {
    static final Due due = new Due();
    // A hundred times the last two wraps around to 4 and to 96, as if they
    // were values of facet 0.
    static final int[] NO_FACETS = {MIN, -1, 6, MAX, 42949673, -42949672};
    static final int[] NO_VALUES = {MIN, -101, -100, -2, -1, 100, 101, 200, MAX};

    /** A new object, for a test of a sentence of the document. */
    static Story story(String sentence) {
        due.part(sentence);
        return new Story(due);
    }

    /** The same with so many records, all of them hits. */
    static Story withHits(String sentence, int n) {
        Story s = story(sentence);
        for (int r = 1; r <= n; r++) {
            s.first(record(), hit(r, true));
        }
        return s;
    }
}
