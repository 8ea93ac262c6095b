/** Promises 6 to 10: item, clear, face, shown, standsFor. */
public final class UtterancesTest {
    private static final int SIGN = HandArchive.SIGN, SET = HandArchive.SET, POINT = HandArchive.POINT;
    private static final int RELEASE = HandArchive.RELEASE, VERB = HandArchive.VERB, LETTER = HandArchive.LETTER;
    private static final int NONE = HandArchive.NONE;
    private static final Check CHECK = new Check();

    public static void main(String[] args) {
        handsOfItems();
        wrongItems();
        lociOfItems();
        fullOfItems();
        clear();
        faces();
        wrongFaces();
        shownBehindSpans();
        standsFor();
        CHECK.end();
    }

    private static HandArchive withSigns() {
        HandArchive x = new HandArchive();
        x.sign(6, 1, 7, 3, 2, 2, 6);
        x.sign(2, 4, 4, 0, 0, 1, 0);
        return x;
    }

    private static void handsOfItems() {
        HandArchive x = withSigns();
        CHECK.due("SIGN", x.item(SIGN, 0, -5, 99), 1);
        hands(x, 0, 6, 1, 7, 3, 2, 2);
        int[] places = {3, 5, 0, 2};
        for (int locus = 0; locus < 4; locus++) {
            CHECK.due("SET", x.item(SET, locus, 9 - locus, -3), 2 + locus);
            hands(x, 1 + locus, 1, places[locus], places[locus], 0, 0, 0);
        }
        CHECK.due("VERB", x.item(VERB, 0, 2, 1), 6);
        hands(x, 5, 6, 0, 5, 3, 2, 2);
        CHECK.due("POINT", x.item(POINT, 3, -1, -1), 7);
        hands(x, 6, 1, 2, 2, 0, 0, 0);
        CHECK.due("RELEASE", x.item(RELEASE, 0, 77, 77), 8);
        hands(x, 7, 1, 3, 3, 0, 0, 0);
        CHECK.due("LETTER 0", x.item(LETTER, 0, 50, 50), 9);
        hands(x, 8, 0, 4, 4, 0, 0, 0);
        CHECK.due("LETTER 23", x.item(LETTER, 23, 0, 0), 10);
        hands(x, 9, 7, 4, 4, 2, 2, 0);
        CHECK.due("LETTER 25", x.item(LETTER, 25, 0, 0), 11);
        hands(x, 10, 1, 4, 4, 3, 3, 0);
    }

    private static void hands(HandArchive x, int item, int... due) {
        for (int what = 0; what < due.length; what++) {
            CHECK.due("signed(" + item + ", " + what + ")", x.signed(item, what), due[what]);
        }
    }

    private static void wrongItems() {
        HandArchive x = withSigns();
        CHECK.noSuch("no such sign", () -> x.item(SIGN, 2, 0, 0));
        CHECK.noSuch("sign below", () -> x.item(SIGN, -1, 0, 0));
        CHECK.noSuch("no such locus to SET", () -> x.item(SET, 4, 0, 0));
        CHECK.noSuch("locus below", () -> x.item(SET, -1, 0, 0));
        CHECK.noSuch("the locus is looked at ahead of r", () -> x.item(SET, 4, 10, 0));
        CHECK.noSuch("no such locus to POINT", () -> x.item(POINT, 4, 0, 0));
        CHECK.noSuch("no such locus to RELEASE", () -> x.item(RELEASE, -1, 0, 0));
        CHECK.noSuch("no such sign of a VERB", () -> x.item(VERB, 2, 0, 1));
        CHECK.noSuch("no such first locus", () -> x.item(VERB, 0, 4, 1));
        CHECK.noSuch("no such second locus", () -> x.item(VERB, 0, 0, -1));
        CHECK.noSuch("both are none, and the same", () -> x.item(VERB, 0, 4, 4));
        CHECK.badArgument("r above", () -> x.item(SET, 0, 10, 0));
        CHECK.badArgument("r below", () -> x.item(SET, 0, -1, 0));
        CHECK.badArgument("c above", () -> x.item(LETTER, 26, 0, 0));
        CHECK.badArgument("c below", () -> x.item(LETTER, -1, 0, 0));
        CHECK.badArgument("kind above", () -> x.item(6, 99, 99, 99));
        CHECK.badArgument("kind below", () -> x.item(-1, -1, -1, -1));
        CHECK.badArgument("the same locus, that stands for nobody", () -> x.item(VERB, 0, 1, 1));
        CHECK.due("no item was added", x.clear(), 0);
    }

    private static void lociOfItems() {
        HandArchive x = withSigns();
        CHECK.badState("POINT at nobody", () -> x.item(POINT, 0, 0, 0));
        CHECK.badState("RELEASE of nobody", () -> x.item(RELEASE, 0, 0, 0));
        CHECK.badState("VERB between nobodies", () -> x.item(VERB, 0, 0, 1));
        x.item(SET, 0, 5, 0);
        CHECK.badState("SET of a locus that stands", () -> x.item(SET, 0, 6, 0));
        CHECK.badState("SET of a locus that stands for just r", () -> x.item(SET, 0, 5, 0));
        CHECK.badState("r has a locus", () -> x.item(SET, 1, 5, 0));
        CHECK.badState("VERB to nobody", () -> x.item(VERB, 0, 0, 1));
        CHECK.badState("VERB from nobody", () -> x.item(VERB, 0, 1, 0));
        CHECK.due("another r", x.item(SET, 1, 0, 0), 2);
        CHECK.due("VERB", x.item(VERB, 0, 0, 1), 3);
        CHECK.due("POINT", x.item(POINT, 0, 0, 0), 4);
        CHECK.due("POINT again", x.item(POINT, 0, 0, 0), 5);
        CHECK.due("RELEASE", x.item(RELEASE, 0, 0, 0), 6);
        CHECK.badState("POINT when released", () -> x.item(POINT, 0, 0, 0));
        CHECK.badState("RELEASE when released", () -> x.item(RELEASE, 0, 0, 0));
        CHECK.badState("VERB when released", () -> x.item(VERB, 0, 0, 1));
        CHECK.due("r is free", x.item(SET, 3, 5, 0), 7);
        CHECK.due("the locus is free", x.item(SET, 0, 9, 0), 8);
    }

    private static void fullOfItems() {
        HandArchive x = withSigns();
        for (int i = 0; i < 14; i++) {
            CHECK.due("item", x.item(SIGN, 1, 0, 0), i + 1);
        }
        CHECK.badState("there are 14", () -> x.item(SIGN, 1, 0, 0));
        CHECK.badState("there are 14, a letter", () -> x.item(LETTER, 1, 0, 0));
        CHECK.noSuch("signs are looked at first", () -> x.item(SIGN, 2, 0, 0));
        CHECK.badArgument("kinds are looked at first", () -> x.item(7, 0, 0, 0));
        CHECK.due("item 13", x.signed(13, 0), 2);
        CHECK.noSuch("item 14", () -> x.signed(14, 0));
        CHECK.due("clear", x.clear(), 14);
        CHECK.due("free again", x.item(SIGN, 1, 0, 0), 1);
    }

    private static void clear() {
        HandArchive x = withSigns();
        CHECK.due("of none", x.clear(), 0);
        x.item(SET, 0, 5, 0);
        x.item(SIGN, 1, 0, 0);
        x.face(2, 0, 1);
        x.rule(0);
        CHECK.due("of two", x.clear(), 2);
        CHECK.due("again", x.clear(), 0);
        CHECK.noSuch("no item", () -> x.shown(0, 0));
        CHECK.due("no tick", x.at(0, 0), NONE);
        CHECK.badState("loci stand for nobody", () -> x.item(POINT, 0, 0, 0));
        CHECK.due("item", x.item(SET, 1, 5, 0), 1);
        CHECK.due("faces are gone", x.shown(0, 1), NONE);
        CHECK.due("face", x.face(2, 0, 0), 1);
        CHECK.due("rules stay", x.rule(1), 1);
        CHECK.due("signs stay", x.sign(0, 0, 0, 0, 0, 0, 0), 2);
    }

    private static void faces() {
        HandArchive x = withSigns();
        for (int i = 0; i < 14; i++) {
            x.item(SIGN, 1, 0, 0);
        }
        CHECK.due("brows up", x.face(0, 2, 4), 1);
        CHECK.badState("both are of the brows", () -> x.face(1, 4, 6));
        CHECK.badState("the same face", () -> x.face(0, 0, 2));
        CHECK.badState("within", () -> x.face(1, 3, 3));
        CHECK.badState("around", () -> x.face(1, 0, 13));
        CHECK.due("directly behind", x.face(1, 5, 5), 2);
        CHECK.due("directly ahead", x.face(1, 1, 1), 3);
        CHECK.due("the head", x.face(2, 0, 13), 4);
        CHECK.due("the mouth", x.face(3, 13, 13), 5);
        CHECK.badState("the head is busy", () -> x.face(2, 13, 13));
        CHECK.badState("the mouth is busy", () -> x.face(3, 0, 13));
        int[] brows = {NONE, 1, 0, 0, 0, 1, NONE};
        for (int i = 0; i < brows.length; i++) {
            CHECK.due("brows at " + i, x.shown(i, 0), brows[i]);
        }
        CHECK.due("head", x.shown(0, 1), 2);
        CHECK.due("head at the end", x.shown(13, 1), 2);
        CHECK.due("mouth", x.shown(13, 2), 3);
        CHECK.due("no mouth", x.shown(12, 2), NONE);
        CHECK.due("6", x.face(0, 7, 7), 6);
        CHECK.due("7", x.face(0, 8, 8), 7);
        CHECK.due("8", x.face(0, 9, 9), 8);
        CHECK.badState("there are 8", () -> x.face(0, 11, 11));
        CHECK.noSuch("items are looked at first", () -> x.face(0, 11, 14));
        CHECK.badArgument("arguments are looked at first", () -> x.face(4, 11, 11));
    }

    private static void wrongFaces() {
        HandArchive x = withSigns();
        x.item(SIGN, 0, 0, 0);
        x.item(SIGN, 1, 0, 0);
        CHECK.noSuch("from below", () -> x.face(0, -1, 0));
        CHECK.noSuch("from above", () -> x.face(0, 2, 1));
        CHECK.noSuch("to above", () -> x.face(0, 0, 2));
        CHECK.noSuch("to below, ahead of from", () -> x.face(0, 0, -1));
        CHECK.noSuch("items are looked at ahead of the face", () -> x.face(4, 0, 2));
        CHECK.badArgument("to ahead of from", () -> x.face(0, 1, 0));
        CHECK.badArgument("face above", () -> x.face(4, 0, 0));
        CHECK.badArgument("face below", () -> x.face(-1, 0, 0));
        CHECK.due("none was told", x.face(0, 0, 0), 1);
        CHECK.noSuch("shown: no such item", () -> x.shown(2, 0));
        CHECK.noSuch("shown: item below", () -> x.shown(-1, 0));
        CHECK.noSuch("shown: the item is looked at first", () -> x.shown(2, 3));
        CHECK.badArgument("shown: articulator above", () -> x.shown(0, 3));
        CHECK.badArgument("shown: articulator below", () -> x.shown(0, -1));
    }

    private static void shownBehindSpans() {
        HandArchive x = withSigns();
        x.item(SET, 0, 0, 0);
        x.item(SIGN, 0, 0, 0);
        x.item(SET, 1, 1, 0);
        x.item(POINT, 0, 0, 0);
        x.item(RELEASE, 1, 0, 0);
        x.item(POINT, 0, 0, 0);
        x.face(0, 1, 1);
        x.face(1, 4, 4);
        x.face(2, 0, 0);
        x.face(3, 0, 2);
        int[] brows = {NONE, 0, 0, 0, 1, 1};
        int[] head = {2, NONE, NONE, NONE, NONE, NONE};
        int[] mouth = {3, 3, 3, 3, 3, 3};
        for (int i = 0; i < 6; i++) {
            CHECK.due("brows at " + i, x.shown(i, 0), brows[i]);
            CHECK.due("head at " + i, x.shown(i, 1), head[i]);
            CHECK.due("mouth at " + i, x.shown(i, 2), mouth[i]);
        }
        x.item(LETTER, 3, 0, 0);
        x.item(POINT, 0, 0, 0);
        x.item(SET, 3, 7, 0);
        x.item(VERB, 0, 0, 3);
        x.face(0, 8, 8);
        CHECK.due("a letter ends it", x.shown(6, 0), NONE);
        CHECK.due("behind a letter", x.shown(7, 0), NONE);
        CHECK.due("the last face", x.shown(8, 0), 0);
        CHECK.due("a verb ends it", x.shown(9, 0), NONE);
        CHECK.due("a face may be where another one is shown", x.face(1, 5, 5), 6);
        CHECK.due("and is shown there", x.shown(5, 0), 1);
    }

    private static void standsFor() {
        HandArchive x = withSigns();
        x.item(SIGN, 0, 0, 0);
        x.item(SET, 2, 8, 0);
        x.item(SET, 1, 0, 0);
        x.item(RELEASE, 2, 0, 0);
        x.item(SET, 2, 9, 0);
        x.item(POINT, 1, 0, 0);
        int[] two = {NONE, 8, 8, NONE, 9, 9};
        int[] one = {NONE, NONE, 0, 0, 0, 0};
        for (int i = 0; i < 6; i++) {
            CHECK.due("locus 2 behind " + i, x.standsFor(i, 2), two[i]);
            CHECK.due("locus 1 behind " + i, x.standsFor(i, 1), one[i]);
            CHECK.due("locus 0 behind " + i, x.standsFor(i, 0), NONE);
        }
        CHECK.noSuch("no such item", () -> x.standsFor(6, 0));
        CHECK.noSuch("item below", () -> x.standsFor(-1, 0));
        CHECK.noSuch("no such locus", () -> x.standsFor(0, 4));
        CHECK.noSuch("locus below", () -> x.standsFor(0, -1));
    }
}
