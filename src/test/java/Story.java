import java.util.ArrayList;
import java.util.List;

/** A run of calls on a new object, at most the document's 512, that remembers those that were not refused. */
final class Story {
    private final Due due;
    private final FacetRows x = new FacetRows();
    private final List<Call> past = new ArrayList<>();
    private int made = 0;
    // What is answered behind the past; null if it has grown since.
    private List<Later.Answer> answers = null;

    Story(Due due) {
        this.due = due;
    }

    /** Makes calls that a test needs first; another one looks at their answers. */
    Story first(Call... calls) {
        for (Call call : calls) {
            make(call);
            keep(call);
        }
        return this;
    }

    /** Makes a call and looks at its answer. */
    Story due(long want, Call call) {
        due.is(call.toString(), make(call), want);
        keep(call);
        return this;
    }

    /** Makes a call that is refused: it answers so, and all later answers are as they were. */
    Story refused(long want, Call call) {
        due.is(call.toString(), make(call), want);
        if (answers == null) {
            answers = Later.answers(past, null);
        }
        due.is(call + ", refused: what changed behind it", change(Later.answers(past, call)), "nothing");
        return this;
    }

    /** Makes a call that is not refused but leaves all as it is, since it was so. */
    Story idle(long want, Call call) {
        return refused(want, call);
    }

    /** How many calls the object has had. */
    int calls() {
        return made;
    }

    private long make(Call call) {
        made++;
        if (made > Later.CALLS) {
            throw new IllegalStateException("a test makes more than " + Later.CALLS + " calls on an object");
        }
        return call.on(x);
    }

    private void keep(Call call) {
        past.add(call);
        answers = null;
    }

    private String change(List<Later.Answer> now) {
        for (int n = 0; n < answers.size(); n++) {
            if (!answers.get(n).equals(now.get(n))) {
                return now.get(n) + " (without it " + answers.get(n).got() + ")";
            }
        }
        return "nothing";
    }
}
