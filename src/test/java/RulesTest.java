/** Promises 11 and 12, rule and except, and what rules of each kind leave of items. */
public final class RulesTest {
    private static final int SIGN = HandArchive.SIGN, SET = HandArchive.SET, POINT = HandArchive.POINT;
    private static final int RELEASE = HandArchive.RELEASE, VERB = HandArchive.VERB, LETTER = HandArchive.LETTER;
    private static final int DROP = 0, LIKEN = 1, TURN = 2, SWAP = 3, SLIDE = 4;
    private static final Check CHECK = new Check();

    public static void main(String[] args) {
        rules();
        exceptions();
        drop();
        liken();
        turn();
        swap();
        slide();
        order();
        exceptionsOfEachKind();
        CHECK.end();
    }

    private static void rules() {
        HandArchive x = new HandArchive();
        CHECK.badArgument("kind below", () -> x.rule(-1));
        CHECK.badArgument("kind above", () -> x.rule(5));
        for (int i = 0; i < 6; i++) {
            CHECK.due("rule", x.rule(i % 5), i);
        }
        CHECK.badState("there are 6", () -> x.rule(0));
        CHECK.badArgument("kinds are looked at first", () -> x.rule(5));
    }

    private static void exceptions() {
        HandArchive x = new HandArchive();
        x.rule(DROP);
        CHECK.noSuch("no such sign", () -> x.except(0, 0));
        x.sign(0, 0, 0, 0, 0, 1, 0);
        x.sign(1, 0, 0, 0, 0, 1, 0);
        CHECK.noSuch("no such rule", () -> x.except(1, 0));
        CHECK.noSuch("rule below", () -> x.except(-1, 0));
        CHECK.noSuch("sign below", () -> x.except(0, -1));
        CHECK.noSuch("sign above", () -> x.except(0, 2));
        x.item(SIGN, 0, 0, 0);
        CHECK.due("dropped", x.signed(0, 5), 0);
        CHECK.due("except", x.except(0, 0), true);
        CHECK.due("kept", x.signed(0, 5), 1);
        CHECK.due("not any more", x.except(0, 0), false);
        CHECK.due("dropped again", x.signed(0, 5), 0);
        CHECK.due("another sign", x.except(0, 1), true);
        CHECK.due("is none of this one", x.signed(0, 5), 0);
        CHECK.due("except again", x.except(0, 0), true);
        x.rule(DROP);
        CHECK.due("another rule has no exceptions yet", x.signed(0, 5), 0);
        CHECK.due("each has its own", x.except(1, 0), true);
        CHECK.due("kept by both", x.signed(0, 5), 1);
    }

    private static void drop() {
        HandArchive x = new HandArchive();
        x.sign(0, 0, 0, 0, 0, 1, 0);
        x.sign(0, 0, 0, 0, 0, 0, 0);
        x.sign(0, 0, 0, 0, 0, 2, 0);
        x.rule(DROP);
        seconds(x, new int[] {0}, 0);
        seconds(x, new int[] {0, 1}, 0, 0);
        seconds(x, new int[] {1, 0}, 0, 0);
        seconds(x, new int[] {1, 0, 1}, 0, 0, 0);
        seconds(x, new int[] {0, 0}, 1, 1);
        seconds(x, new int[] {1, 0, 0, 1, 0}, 0, 1, 1, 0, 0);
        seconds(x, new int[] {2}, 2);
        seconds(x, new int[] {2, 0, 1}, 2, 1, 0);
        seconds(x, new int[] {1, 0, 2}, 0, 1, 2);
        seconds(x, new int[] {2, 1, 0, 1, 2}, 2, 0, 0, 0, 2);
        x.clear();
        x.item(SET, 0, 0, 0);
        x.item(SIGN, 0, 0, 0);
        x.item(LETTER, 0, 0, 0);
        CHECK.due("between a pointing and a letter", x.signed(1, 5), 0);
        x.clear();
        x.item(SET, 0, 0, 0);
        x.item(SET, 1, 1, 0);
        x.item(VERB, 0, 0, 1);
        CHECK.due("of a verb", x.signed(2, 5), 0);
    }

    private static void seconds(HandArchive x, int[] signs, int... due) {
        x.clear();
        for (int i = 0; i < signs.length; i++) {
            x.item(SIGN, signs[i], 0, 0);
        }
        for (int i = 0; i < signs.length; i++) {
            CHECK.due("second of " + i + " of " + signs.length, x.signed(i, 5), due[i]);
        }
    }

    private static void liken() {
        HandArchive x = new HandArchive();
        x.sign(6, 0, 0, 0, 0, 0, 0);
        x.sign(3, 0, 0, 0, 0, 0, 0);
        x.rule(LIKEN);
        x.item(SET, 0, 0, 0);
        CHECK.due("alone it stays", x.signed(0, 0), 1);
        x.item(SIGN, 0, 0, 0);
        CHECK.due("the one behind", x.signed(0, 0), 6);
        CHECK.due("a sign stays", x.signed(1, 0), 6);
        x.item(POINT, 0, 0, 0);
        CHECK.due("the last one: the one ahead", x.signed(2, 0), 6);
        x.item(SIGN, 1, 0, 0);
        CHECK.due("the one behind, not ahead", x.signed(2, 0), 3);
        x.item(SET, 1, 1, 0);
        x.item(RELEASE, 0, 0, 0);
        x.item(LETTER, 5, 0, 0);
        // From the first to the last: item 4 sees item 5 as it still is, then 5 becomes like the letter.
        CHECK.due("a pointing ahead of a pointing", x.signed(4, 0), 1);
        CHECK.due("a release", x.signed(5, 0), 5);
        CHECK.due("a letter stays", x.signed(6, 0), 5);
        x.clear();
        x.item(SIGN, 0, 0, 0);
        x.item(SET, 0, 0, 0);
        x.item(POINT, 0, 0, 0);
        CHECK.due("of two at the end, the first one", x.signed(1, 0), 1);
        CHECK.due("and the last one, like that", x.signed(2, 0), 1);
        x.rule(LIKEN);
        CHECK.due("a second time, the first one", x.signed(1, 0), 1);
        x.clear();
        x.item(SET, 0, 0, 0);
        x.item(POINT, 0, 0, 0);
        x.item(SIGN, 0, 0, 0);
        CHECK.due("a second time, by what they are by then", x.signed(0, 0), 6);
    }

    private static void turn() {
        HandArchive x = new HandArchive();
        int[][] turns = {{0, 0}, {1, 1}, {2, 2}, {3, 3}, {2, 1}, {3, 0}};
        for (int[] pair : turns) {
            x.sign(0, 0, 0, pair[0], pair[1], 0, 0);
        }
        x.rule(TURN);
        for (int first = 0; first < 4; first++) {
            for (int next = 0; next < 4; next++) {
                x.clear();
                x.item(SIGN, first, 0, 0);
                x.item(SIGN, next, 0, 0);
                boolean isApart = next == first + 2 || first == next + 2;
                CHECK.due("begins, " + first + " " + next, x.signed(1, 3), isApart ? first : next);
                CHECK.due("ends, " + first + " " + next, x.signed(1, 4), next);
                CHECK.due("the first one stays", x.signed(0, 3), first);
            }
        }
        x.clear();
        x.item(SIGN, 0, 0, 0);
        x.item(SIGN, 4, 0, 0);
        x.item(SIGN, 5, 0, 0);
        CHECK.due("its end counts: begins", x.signed(1, 3), 0);
        CHECK.due("its end counts: the next one", x.signed(2, 3), 1);
        CHECK.due("its end stays", x.signed(2, 4), 0);
        x.clear();
        x.item(SIGN, 2, 0, 0);
        x.item(SET, 0, 0, 0);
        x.item(LETTER, 16, 0, 0);
        CHECK.due("a pointing", x.signed(1, 3), 2);
        CHECK.due("ends as it did", x.signed(1, 4), 0);
        CHECK.due("a letter", x.signed(2, 3), 0);
        CHECK.due("ends as it did", x.signed(2, 4), 2);
        x.clear();
        x.item(SIGN, 4, 0, 0);
        CHECK.due("the first item has none ahead", x.signed(0, 3), 2);
    }

    private static void swap() {
        HandArchive x = new HandArchive();
        x.sign(0, 4, 5, 0, 1, 0, 0);
        x.sign(0, 4, 3, 0, 0, 0, 0);
        x.sign(0, 5, 5, 0, 0, 0, 0);
        x.sign(0, 1, 7, 0, 0, 0, 0);
        x.rule(SWAP);
        x.item(SIGN, 0, 0, 0);
        CHECK.due("the first item has none ahead", x.signed(0, 1), 4);
        x.item(SIGN, 0, 0, 0);
        CHECK.due("swapped, from", x.signed(1, 1), 5);
        CHECK.due("swapped, to", x.signed(1, 2), 4);
        CHECK.due("its turns stay, begin", x.signed(1, 3), 0);
        CHECK.due("its turns stay, end", x.signed(1, 4), 1);
        x.item(SIGN, 0, 0, 0);
        CHECK.due("by what the one ahead is by then", x.signed(2, 1), 4);
        x.item(SIGN, 1, 0, 0);
        CHECK.due("not nearer", x.signed(3, 1), 4);
        x.item(SIGN, 2, 0, 0);
        x.item(SIGN, 3, 0, 0);
        CHECK.due("as near is not nearer", x.signed(5, 1), 1);
        x.clear();
        x.item(SET, 1, 0, 0);
        x.item(SET, 0, 1, 0);
        x.item(VERB, 0, 1, 0);
        CHECK.due("a verb stays, from", x.signed(2, 1), 5);
        CHECK.due("a verb stays, to", x.signed(2, 2), 3);
        x.clear();
        x.item(SET, 1, 0, 0);
        x.item(SIGN, 0, 0, 0);
        CHECK.due("behind a pointing", x.signed(1, 1), 5);
    }

    private static void slide() {
        HandArchive x = new HandArchive();
        x.sign(1, 4, 4, 1, 1, 0, 0);
        x.rule(SLIDE);
        x.item(LETTER, 9, 0, 0);
        x.item(LETTER, 9, 0, 0);
        x.item(LETTER, 9, 0, 0);
        x.item(LETTER, 1, 0, 0);
        x.item(SIGN, 0, 0, 0);
        x.item(LETTER, 1, 0, 0);
        x.item(SIGN, 0, 0, 0);
        x.item(LETTER, 9, 0, 0);
        int[] to = {4, 5, 5, 4, 4, 4, 4, 4};
        for (int i = 0; i < to.length; i++) {
            CHECK.due("from of " + i, x.signed(i, 1), 4);
            CHECK.due("to of " + i, x.signed(i, 2), to[i]);
        }
        CHECK.due("its shape stays", x.signed(1, 0), 1);
        x.clear();
        x.item(SET, 1, 1, 0);
        x.item(SET, 0, 0, 0);
        x.item(POINT, 0, 0, 0);
        CHECK.due("a pointing does not slide", x.signed(2, 2), 3);
    }

    /** The second letter ends at 4, from which the sign begins nearer by; once slid, it ends at 5. */
    private static void order() {
        HandArchive x = new HandArchive();
        x.sign(0, 3, 2, 0, 0, 0, 0);
        x.rule(SWAP);
        letters(x);
        CHECK.due("not swapped without a slide", x.signed(2, 1), 3);
        x.rule(SLIDE);
        CHECK.due("nor by a slide that comes behind", x.signed(2, 1), 3);
        x.rule(SWAP);
        CHECK.due("swapped behind the slide", x.signed(2, 1), 2);
        HandArchive y = new HandArchive();
        y.sign(0, 3, 2, 0, 0, 0, 0);
        y.rule(SLIDE);
        y.rule(SWAP);
        letters(y);
        CHECK.due("swapped by the second rule", y.signed(2, 1), 2);
        y.rule(SWAP);
        CHECK.due("and not back again, as it is nearer by then", y.signed(2, 1), 2);
    }

    private static void letters(HandArchive x) {
        x.item(LETTER, 0, 0, 0);
        x.item(LETTER, 0, 0, 0);
        x.item(SIGN, 0, 0, 0);
    }

    private static void exceptionsOfEachKind() {
        HandArchive x = new HandArchive();
        x.sign(0, 4, 5, 0, 0, 0, 0);
        x.sign(3, 4, 5, 2, 2, 1, 0);
        x.rule(TURN);
        x.rule(SWAP);
        x.item(SIGN, 0, 0, 0);
        x.item(SIGN, 1, 0, 0);
        CHECK.due("turned", x.signed(1, 3), 0);
        CHECK.due("swapped", x.signed(1, 1), 5);
        x.except(0, 0);
        x.except(1, 0);
        CHECK.due("the one ahead is the exception: turned", x.signed(1, 3), 0);
        CHECK.due("the one ahead is the exception: swapped", x.signed(1, 1), 5);
        x.except(0, 1);
        CHECK.due("not turned", x.signed(1, 3), 2);
        CHECK.due("but swapped", x.signed(1, 1), 5);
        x.except(1, 1);
        CHECK.due("not swapped", x.signed(1, 1), 4);
        verbsAndNoSigns();
    }

    private static void verbsAndNoSigns() {
        HandArchive x = new HandArchive();
        x.sign(0, 4, 5, 2, 2, 0, 0);
        x.rule(LIKEN);
        x.rule(TURN);
        x.rule(SLIDE);
        x.except(0, 0);
        x.except(2, 0);
        x.item(SET, 0, 0, 0);
        x.item(SET, 1, 1, 0);
        x.item(VERB, 0, 0, 1);
        CHECK.due("a verb is turned", x.signed(2, 3), 0);
        x.except(1, 0);
        CHECK.due("a verb of an exception is not", x.signed(2, 3), 2);
        CHECK.due("a pointing at the locus 0 is no sign 0", x.signed(1, 0), 0);
        x.item(LETTER, 0, 0, 0);
        x.item(LETTER, 0, 0, 0);
        CHECK.due("nor is the letter 0: slides", x.signed(4, 2), 5);
        CHECK.due("nor is the letter 0: turned", x.signed(3, 3), 2);
    }
}
