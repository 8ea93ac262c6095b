import java.io.IOException;
import java.util.Set;
import java.util.TreeSet;

/**
 * Answers at the bounds of the document, behind the promise and the sentence that they stand for. A call that has to
 * be refused is looked at twice: whether it throws just what is due, and whether it changes nothing.
 */
final class Bounds extends Check {
    static final int TERMS = 0;
    static final String FIRST_LISTED =
            "If several exceptions apply to a call, the one that its comment lists first is thrown";

    /** Makes an object by the same calls each time. */
    interface State {
        HandArchive make();
    }

    interface Ask {
        long on(HandArchive x);
    }

    private final Doc doc = new Doc();
    private final Set<String> unnamed = doc.all();

    Bounds() throws IOException {
        due("the document's promises, and its terms", doc.size(), 23);
    }

    /** What follows would be wrong if one of these sentences were broken. */
    void says(int promise, String... sentences) {
        StringBuilder all = new StringBuilder();
        for (String sentence : sentences) {
            String named = Doc.named(promise, sentence);
            due("is in the document: " + named, doc.has(promise, sentence), true);
            unnamed.remove(named);
            all.append(named).append(": ");
        }
        about(all.toString());
    }

    /** Sentences that no answer could break by itself. */
    void names(int promise, String sentence) {
        says(promise, sentence);
        about("");
    }

    void noSuch(State state, String call, Ask run) {
        refused(IndexOutOfBoundsException.class, state, call, run);
    }

    void badArgument(State state, String call, Ask run) {
        refused(IllegalArgumentException.class, state, call, run);
    }

    void badState(State state, String call, Ask run) {
        refused(IllegalStateException.class, state, call, run);
    }

    private void refused(Class<? extends RuntimeException> want, State state, String call, Ask run) {
        HandArchive x = state.make();
        throwsJust(want, call, () -> run.on(x));
        String untouched = Look.at(state, null);
        String behind = Look.at(state, run);
        due(call + " changes nothing", behind.equals(untouched), true);
    }

    /** Just outside of 0 to bound - 1, far outside, and where a shift by 32 or a remainder would be inside again. */
    static int[] outside(int bound) {
        return new int[] {-1, bound, bound + 32, -bound, Integer.MIN_VALUE, Integer.MAX_VALUE};
    }

    Set<String> unnamed() {
        return new TreeSet<>(unnamed);
    }
}
