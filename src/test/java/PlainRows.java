import java.util.ArrayList;
import java.util.HashMap;
import java.util.List;
import java.util.Map;
import java.util.Set;
import java.util.TreeSet;
import java.util.stream.Collectors;
import java.util.stream.IntStream;

/** The document's words once more, over sets and maps, as slow as they come: to compare with. */
final class PlainRows {
    private record Value(int facet, int v) { }

    private record Held(int record, Value value) { }

    private int records = 0;
    private final List<Held> held = new ArrayList<>();
    private final Map<Value, Value> broader = new HashMap<>();
    private final Set<Integer> hits = new TreeSet<>();
    private final List<Value> chosen = new ArrayList<>();

    int record() {
        return records == 60 ? 0 : ++records;
    }

    int value(int record, int facet, int v) {
        Held one = new Held(record, new Value(facet, v));
        if (!known(record) || !known(facet, v) || held.contains(one) || held.size() == 400) {
            return 0;
        }
        held.add(one);
        return own(record, facet).size();
    }

    boolean gone(int record, int facet, int v) {
        return held.remove(new Held(record, new Value(facet, v)));
    }

    int narrower(int facet, int v, int above) {
        Value low = new Value(facet, v);
        if (!known(facet, v)) {
            return 0;
        }
        if (above == -1) {
            broader.remove(low);
            return 1;
        }
        Value high = new Value(facet, above);
        if (!known(facet, above) || low.equals(high) || liesBelow(high, low)) {
            return 0;
        }
        broader.put(low, high);
        return 1;
    }

    int hit(int record, boolean on) {
        if (!known(record)) {
            return -1;
        }
        if (on) {
            hits.add(record);
        } else {
            hits.remove(record);
        }
        return hits.size();
    }

    int choose(int facet, int v) {
        if (!known(facet, v)) {
            return -1;
        }
        Value value = new Value(facet, v);
        if (!chosen.remove(value)) {
            chosen.add(value);
        }
        return remaining().size();
    }

    int count(int facet, int v) {
        return known(facet, v) ? having(facet, v) : -1;
    }

    int top(int facet, int i) {
        return known(facet, 0) ? pick(ordered(facet), i, -1) : -1;
    }

    int below(int facet, boolean roots, int v, int i) {
        if (!known(facet, 0)) {
            return -1;
        }
        List<Integer> some = new ArrayList<>();
        for (int w : ordered(facet)) {
            Value up = broader.get(new Value(facet, w));
            if (roots ? up == null : up != null && up.v() == v) {
                some.add(w);
            }
        }
        return pick(some, i, -1);
    }

    int band(int facet, int from, int to) {
        if (!known(facet, 0) || to < from) {
            return -1;
        }
        return (int) remaining().stream()
            .filter(r -> own(r, facet).stream().anyMatch(v -> from <= v && v <= to)).count();
    }

    /** NO_ANSWER where an ArithmeticException is due. */
    static final long NO_ANSWER = Long.MIN_VALUE;

    long share(int facet, int v, int side) {
        if (!known(facet, v)) {
            return -1;
        }
        int all = remaining().size();
        if (all == 0) {
            return NO_ANSWER;
        }
        int part = having(facet, v);
        int common = gcd(all, part);
        return (side == 0 ? part : all) / common;
    }

    int missing(int facet) {
        if (!known(facet, 0)) {
            return -1;
        }
        return (int) remaining().stream().filter(r -> own(r, facet).isEmpty()).count();
    }

    int left(int i) {
        return pick(remaining(), i, 0);
    }

    private boolean known(int record) {
        return 1 <= record && record <= records;
    }

    private static boolean known(int facet, int v) {
        return 0 <= facet && facet <= 5 && 0 <= v && v <= 99;
    }

    private Set<Integer> own(int record, int facet) {
        return held.stream().filter(h -> h.record() == record && h.value().facet() == facet)
            .map(h -> h.value().v()).collect(Collectors.toSet());
    }

    private boolean liesBelow(Value low, Value high) {
        Value up = broader.get(low);
        return up != null && (up.equals(high) || liesBelow(up, high));
    }

    private boolean has(int record, Value value) {
        return held.stream().anyMatch(h -> h.record() == record
            && (h.value().equals(value) || liesBelow(h.value(), value)));
    }

    private List<Integer> remaining() {
        return hits.stream().filter(this::isLeft).toList();
    }

    private boolean isLeft(int record) {
        return IntStream.range(0, 6).allMatch(facet -> {
            List<Value> of = chosen.stream().filter(c -> c.facet() == facet).toList();
            return of.isEmpty() || of.stream().anyMatch(c -> has(record, c));
        });
    }

    private int having(int facet, int v) {
        return (int) remaining().stream().filter(r -> has(r, new Value(facet, v))).count();
    }

    private List<Integer> ordered(int facet) {
        Map<Integer, Integer> times = new HashMap<>();
        for (int record : remaining()) {
            Set<Integer> all = new TreeSet<>();
            for (int v : own(record, facet)) {
                for (Value up = new Value(facet, v); up != null; up = broader.get(up)) {
                    all.add(up.v());
                }
            }
            all.forEach(v -> times.merge(v, 1, Integer::sum));
        }
        List<Integer> values = new ArrayList<>(times.keySet());
        values.sort((a, b) -> times.get(a).equals(times.get(b)) ? a - b : times.get(b) - times.get(a));
        return values;
    }

    private static int pick(List<Integer> some, int i, int none) {
        return 0 <= i && i < some.size() ? some.get(i) : none;
    }

    private static int gcd(int a, int b) {
        return b == 0 ? a : gcd(b, a % b);
    }
}
