import java.io.IOException;
import java.util.Set;

/**
 * Promises 1 to 22, each sentence of the document at its bounds: the least and the most, what is just outside, empty
 * and full, and each refused call. Every sentence of the promises and terms has to be named by one of these tests.
 */
public final class BoundariesTest {
    private static final int CALLS = 512;

    public static void main(String[] args) throws IOException {
        Bounds b = new Bounds();
        SignBounds.all(b);
        UtteranceBounds.all(b);
        RuleBounds.all(b);
        FigureBounds.all(b);
        ClipBounds.all(b);
        places(b);
        lastCall(b);
        b.names(Bounds.TERMS, "A call that throws an exception changes nothing");
        Set<String> unnamed = b.unnamed();
        b.due("sentences of the document that no test names: " + unnamed, unnamed.size(), 0);
        b.end();
    }

    private static void places(Bounds b) {
        b.says(Bounds.TERMS, "IndexOutOfBoundsException: there is no such sign, item, locus, person, clip, coder, tier "
                + "or place of a row");
        b.noSuch(States::threeSigns, "sign", x -> x.written(3, 0));
        b.noSuch(States::twoFaces, "item", x -> x.signed(3, 0));
        b.noSuch(States::allLociStand, "locus", x -> x.standsFor(0, 4));
        b.noSuch(States::clips, "person", x -> x.withdraw(6));
        b.noSuch(States::clips, "clip", x -> x.persons(7));
        b.noSuch(States::oneMark, "coder", x -> x.agree(0, 3, 0, 0, 0));
        b.noSuch(States::oneMark, "tier", x -> x.agree(0, 0, 0, 4, 0));
        b.noSuch(States::twoRules, "place of a row", x -> x.except(2, 0) ? 1 : 0);
    }

    /** An object answers 512 calls, refused ones among them. */
    private static void lastCall(Bounds b) {
        b.about("The last of " + CALLS + " calls: ");
        HandArchive items = new HandArchive();
        for (int call = 1; call < CALLS; call += 2) {
            b.due("item", items.item(HandArchive.LETTER, call % 26, 0, 0), 1);
            b.due("clear", items.clear(), 1);
        }
        HandArchive signs = new HandArchive();
        signs.sign(0, 0, 0, 0, 0, 0, 0);
        for (int call = 2; call < CALLS; call++) {
            b.throwsJust(IllegalStateException.class, "just so", () -> signs.sign(0, 0, 0, 0, 0, 0, 0));
        }
        b.due("sign", signs.sign(1, 0, 0, 0, 0, 0, 0), 1);
        HandArchive marks = States.oneMark();
        for (int call = 5; call < CALLS; call++) {
            b.due("agree", marks.agree(0, 1, call % 3, 2, 1), 10);
        }
        b.about("");
    }
}
