/** Promise 15: readBack. */
public final class ReadBackTest {
    private static final int SIGN = HandArchive.SIGN, SET = HandArchive.SET, POINT = HandArchive.POINT;
    private static final int RELEASE = HandArchive.RELEASE, VERB = HandArchive.VERB, LETTER = HandArchive.LETTER;
    private static final int NONE = HandArchive.NONE;
    private static final Check CHECK = new Check();

    public static void main(String[] args) {
        signs();
        letters();
        pointings();
        verbs();
        changedByRules();
        wrongArguments();
        CHECK.end();
    }

    private static void read(HandArchive x, int item, int kind, int one, int count) {
        CHECK.due("kind of " + item, x.readBack(item, 0), kind);
        CHECK.due("number of " + item, x.readBack(item, 1), one);
        CHECK.due("count of " + item, x.readBack(item, 2), count);
    }

    private static void signs() {
        HandArchive x = new HandArchive();
        x.sign(6, 0, 8, 0, 0, 2, 1);
        x.sign(6, 0, 8, 0, 0, 2, 6);
        x.sign(6, 0, 8, 0, 0, 1, 0);
        x.sign(1, 3, 3, 0, 0, 0, 0);
        x.sign(1, 4, 4, 1, 1, 0, 0);
        for (int i = 0; i < 5; i++) {
            x.item(SIGN, i, 0, 0);
        }
        for (int i = 0; i < 5; i++) {
            read(x, i, SIGN, i, 1);
        }
    }

    private static void letters() {
        HandArchive x = new HandArchive();
        for (int letter = 0; letter < 26; letter++) {
            x.clear();
            x.item(LETTER, letter, 0, 0);
            read(x, 0, LETTER, letter, 0);
        }
    }

    private static void pointings() {
        HandArchive x = new HandArchive();
        for (int locus = 0; locus < 4; locus++) {
            x.clear();
            x.item(SET, locus, 9, 0);
            x.item(POINT, locus, 0, 0);
            x.item(RELEASE, locus, 0, 0);
            for (int i = 0; i < 3; i++) {
                read(x, i, POINT, locus, 0);
            }
        }
    }

    private static void verbs() {
        HandArchive x = new HandArchive();
        x.sign(5, 4, 4, 0, 1, 0, 0);
        x.item(SET, 0, 0, 0);
        x.item(SET, 1, 1, 0);
        x.item(VERB, 0, 0, 1);
        read(x, 2, NONE, NONE, 0);
        x.sign(5, 5, 3, 0, 1, 0, 0);
        read(x, 2, NONE, NONE, 0);
        x.sign(5, 3, 5, 0, 1, 0, 0);
        read(x, 2, SIGN, 2, 1);
    }

    private static void changedByRules() {
        HandArchive x = new HandArchive();
        x.sign(0, 4, 4, 0, 0, 1, 0);
        x.rule(0);
        x.item(SIGN, 0, 0, 0);
        read(x, 0, NONE, NONE, 0);
        x.sign(0, 4, 4, 0, 0, 0, 0);
        read(x, 0, SIGN, 1, 1);
        slid();
        likened();
        turned();
    }

    private static void slid() {
        HandArchive x = new HandArchive();
        x.rule(4);
        x.item(LETTER, 9, 0, 0);
        x.item(LETTER, 9, 0, 0);
        read(x, 0, LETTER, 9, 0);
        read(x, 1, NONE, NONE, 0);
        x.sign(1, 4, 5, 1, 1, 1, 0);
        read(x, 1, NONE, NONE, 0);
        x.sign(1, 4, 5, 1, 1, 0, 0);
        read(x, 1, SIGN, 1, 1);
    }

    private static void likened() {
        HandArchive x = new HandArchive();
        x.rule(1);
        x.sign(2, 3, 3, 0, 0, 0, 0);
        x.item(SET, 0, 0, 0);
        read(x, 0, POINT, 0, 0);
        x.item(LETTER, 2, 0, 0);
        read(x, 0, SIGN, 0, 1);
        x.clear();
        x.item(SET, 1, 0, 0);
        x.item(LETTER, 2, 0, 0);
        read(x, 0, NONE, NONE, 0);
        x.clear();
        x.item(SET, 1, 0, 0);
        x.item(LETTER, 1, 0, 0);
        read(x, 0, POINT, 1, 0);
    }

    private static void turned() {
        HandArchive x = new HandArchive();
        x.rule(2);
        x.sign(7, 0, 0, 2, 2, 0, 0);
        x.item(SIGN, 0, 0, 0);
        x.item(SET, 0, 0, 0);
        read(x, 1, NONE, NONE, 0);
        x.item(LETTER, 17, 0, 0);
        read(x, 2, NONE, NONE, 0);
        x.sign(1, 3, 3, 2, 0, 0, 0);
        read(x, 1, SIGN, 1, 1);
        x.sign(1, 4, 4, 0, 2, 0, 0);
        read(x, 2, SIGN, 2, 1);
        x.except(0, 0);
        read(x, 1, SIGN, 1, 1);
    }

    private static void wrongArguments() {
        HandArchive x = new HandArchive();
        CHECK.noSuch("no item", () -> x.readBack(0, 0));
        x.item(LETTER, 0, 0, 0);
        CHECK.noSuch("item below", () -> x.readBack(-1, 0));
        CHECK.noSuch("item above", () -> x.readBack(1, 0));
        CHECK.noSuch("the item is looked at first", () -> x.readBack(1, 3));
        CHECK.badArgument("what above", () -> x.readBack(0, 3));
        CHECK.badArgument("what below", () -> x.readBack(0, -1));
    }
}
