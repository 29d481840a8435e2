/** The face's calls under their own names, for the classes that extend this one. */
abstract class Calls {
    static final int MIN = Integer.MIN_VALUE;
    static final int MAX = Integer.MAX_VALUE;

    static Call record() {
        return new Call(x -> x.record(), "record");
    }

    static Call value(int record, int facet, int v) {
        return new Call(x -> x.value(record, facet, v), "value", record, facet, v);
    }

    static Call gone(int record, int facet, int v) {
        return new Call(x -> x.gone(record, facet, v) ? 1L : 0L, "gone", record, facet, v);
    }

    static Call narrower(int facet, int v, int broader) {
        return new Call(x -> x.narrower(facet, v, broader), "narrower", facet, v, broader);
    }

    static Call hit(int record, boolean on) {
        return new Call(x -> x.hit(record, on), "hit", record, on);
    }

    static Call choose(int facet, int v) {
        return new Call(x -> x.choose(facet, v), "choose", facet, v);
    }

    static Call count(int facet, int v) {
        return new Call(x -> x.count(facet, v), "count", facet, v);
    }

    static Call top(int facet, int i) {
        return new Call(x -> x.top(facet, i), "top", facet, i);
    }

    static Call below(int facet, boolean roots, int v, int i) {
        return new Call(x -> x.below(facet, roots, v, i), "below", facet, roots, v, i);
    }

    static Call band(int facet, int from, int to) {
        return new Call(x -> x.band(facet, from, to), "band", facet, from, to);
    }

    static Call share(int facet, int v, int side) {
        return new Call(x -> x.share(facet, v, side), "share", facet, v, side);
    }

    static Call missing(int facet) {
        return new Call(x -> x.missing(facet), "missing", facet);
    }

    static Call left(int i) {
        return new Call(x -> x.left(i), "left", i);
    }
}
