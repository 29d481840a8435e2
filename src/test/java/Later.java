import java.util.ArrayList;
import java.util.List;

/**
 * What later calls tell of an object: its hits, values, trees and chosen ones,
 * those of records still to come too, and how many values it still takes. A
 * call that changed none of these answers has changed nothing.
 */
final class Later extends Calls {
    /** The document's last call of an object; beyond it every answer is free. */
    static final int CALLS = 512;

    private static final int RECORDS = 60;
    private static final int FACETS = 6;
    private static final int VALUES = 100;
    private static final List<Look> LOOKS = looks();

    /** A later call and what it answered. */
    record Answer(Call call, long got) {
        @Override
        public String toString() {
            return call + " answered " + got;
        }
    }

    /** Calls that come first, and those behind them, on as many new objects as they take. */
    private record Look(List<Call> first, List<Call> then) { }

    private Later() { }

    /** All that is answered behind a past, and behind one call more unless it is null. */
    static List<Answer> answers(List<Call> past, Call more) {
        List<Answer> all = new ArrayList<>();
        // Room for one call more in either case, so that the same calls are
        // made with and without it.
        int room = CALLS - past.size() - 1;
        for (Look look : LOOKS) {
            List<Call> first = look.first().subList(0, Math.min(look.first().size(), room / 2));
            int step = room - first.size();
            for (int at = 0; at < look.then().size() && step > 0; at += step) {
                FacetRows x = made(past, more);
                make(all, x, first);
                make(all, x, look.then().subList(at, Math.min(at + step, look.then().size())));
            }
        }
        return all;
    }

    private static FacetRows made(List<Call> past, Call more) {
        FacetRows x = new FacetRows();
        for (Call call : past) {
            call.on(x);
        }
        if (more != null) {
            more.on(x);
        }
        return x;
    }

    private static void make(List<Answer> all, FacetRows x, List<Call> calls) {
        for (Call call : calls) {
            all.add(new Answer(call, call.on(x)));
        }
    }

    private static List<Look> looks() {
        List<Look> all = new ArrayList<>();
        all.add(new Look(List.of(), asks()));
        all.add(new Look(everyHit(), asks()));
        all.add(new Look(everyRecordAndHit(), hitsAndBands()));
        all.add(new Look(List.of(record()), fill()));
        all.add(new Look(List.of(record(), hit(1, true)), oneByOne()));
        all.add(new Look(List.of(), oneByOneKeptOut()));
        for (int facet = 0; facet < FACETS; facet++) {
            all.add(new Look(everyValue(facet), tree(facet)));
        }
        return all;
    }

    private static List<Call> everyHit() {
        List<Call> calls = new ArrayList<>();
        for (int r = RECORDS; r >= 1; r--) {
            calls.add(hit(r, true));
        }
        return calls;
    }

    private static List<Call> everyRecordAndHit() {
        List<Call> calls = new ArrayList<>();
        for (int r = 1; r <= RECORDS; r++) {
            calls.add(record());
        }
        calls.addAll(everyHit());
        return calls;
    }

    private static List<Call> hitsAndBands() {
        List<Call> calls = new ArrayList<>();
        for (int i = 0; i <= RECORDS; i++) {
            calls.add(left(i));
        }
        for (int facet = 0; facet < FACETS; facet++) {
            calls.add(missing(facet));
            for (int v = 0; v < VALUES; v++) {
                calls.add(band(facet, v, v));
            }
        }
        return calls;
    }

    private static List<Call> asks() {
        List<Call> calls = hitsAndBands();
        for (int facet = 0; facet < FACETS; facet++) {
            for (int i = 0; i < 4; i++) {
                calls.add(top(facet, i));
                calls.add(below(facet, true, 0, i));
            }
            calls.add(share(facet, 0, 0));
            calls.add(share(facet, 99, 1));
            for (int v = 0; v < VALUES; v++) {
                calls.add(count(facet, v));
            }
        }
        return calls;
    }

    // More than are free, so that the first one refused shows how many were.
    private static List<Call> fill() {
        List<Call> calls = new ArrayList<>();
        for (int n = 0; n < 450; n++) {
            calls.add(value(1, n / VALUES, n % VALUES));
        }
        return calls;
    }

    // A chosen value that nobody has is seen only by a hit that gets it.
    private static List<Call> oneByOne() {
        List<Call> calls = new ArrayList<>();
        for (int facet = 0; facet < FACETS; facet++) {
            for (int v = 0; v < VALUES; v++) {
                calls.addAll(List.of(value(1, facet, v), left(0), gone(1, facet, v)));
            }
        }
        return calls;
    }

    // Where others of its facet are chosen too, it is seen only by a hit that
    // this facet alone keeps out; in EdgesOfRefusalsTest the hit 5 + facet is
    // one, behind four that are left.
    private static List<Call> oneByOneKeptOut() {
        List<Call> calls = new ArrayList<>();
        for (int facet = 0; facet < FACETS; facet++) {
            for (int v = 0; v < VALUES; v++) {
                calls.addAll(List.of(value(5 + facet, facet, v), left(4), gone(5 + facet, facet, v)));
            }
        }
        return calls;
    }

    // A tree is seen only where a hit has its values.
    private static List<Call> everyValue(int facet) {
        List<Call> calls = new ArrayList<>(List.of(record(), hit(1, true)));
        for (int v = 0; v < VALUES; v++) {
            calls.add(value(1, facet, v));
        }
        return calls;
    }

    private static List<Call> tree(int facet) {
        List<Call> calls = new ArrayList<>();
        for (int v = 0; v < VALUES; v++) {
            calls.add(below(facet, true, 0, v));
            calls.add(below(facet, false, v, 0));
            calls.add(below(facet, false, v, 1));
        }
        return calls;
    }
}
