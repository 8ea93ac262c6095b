/** Promises 6 to 10 at their bounds: items, faces and loci. */
final class UtteranceBounds {
    private static final int NONE = HandArchive.NONE;
    private static final int SIGN = HandArchive.SIGN, SET = HandArchive.SET, POINT = HandArchive.POINT;
    private static final int RELEASE = HandArchive.RELEASE, VERB = HandArchive.VERB, LETTER = HandArchive.LETTER;
    private static final int[] WILD = {-1, 26, 1000, Integer.MIN_VALUE, Integer.MAX_VALUE};
    private static final String NO_SIGN_OR_LOCUS =
            "Throws `IndexOutOfBoundsException` if there is no such sign or locus, of both";
    private static final String ITEM_ARGUMENTS = "Throws `IllegalArgumentException` if kind, r or c is out of its "
            + "range, or both loci of a VERB are the same";
    private static final String ITEM_STATES =
            "Throws `IllegalStateException` if there are 14, or a locus does not stand as it should";
    private static final String NO_ITEM_OF_BOTH =
            "Throws `IndexOutOfBoundsException` if there is no such item, of both";
    private static final String FACE_ARGUMENTS =
            "Throws `IllegalArgumentException` if face is out of its range, or to is ahead of from";
    private static final String FACE_STATES = "Throws `IllegalStateException` if there are 8, or the articulator has "
            + "one that has an item in common";
    private static final String SHOWN_OVER = "A face is shown over its span, and over the items directly behind that, "
            + "as long as these are SETs, POINTs or RELEASEs and in the span of no other face of that articulator";
    private static final String STANDS = "A locus stands for a referent from where it is set, until it is released";

    private UtteranceBounds() {
    }

    static void all(Bounds b) {
        kinds(b);
        signsOfItems(b);
        lociOfItems(b);
        referents(b);
        letters(b);
        whatDoesNotMatter(b);
        fourteen(b);
        sets(b);
        pointsAndReleases(b);
        verbs(b);
        orderOfItem(b);
        clears(b);
        facesAndSpans(b);
        eight(b);
        inCommon(b);
        orderOfFace(b);
        shownBounds(b);
        shownBehind(b);
        shownRefused(b);
        standsForBounds(b);
        standsForRefused(b);
    }

    private static void kinds(Bounds b) {
        b.names(Bounds.TERMS, "Items are:");
        b.says(Bounds.TERMS, "`SIGN = 0, SET = 1, POINT = 2, RELEASE = 3, VERB = 4, LETTER = 5`: Kinds of items");
        b.says(6, "`kind`: SIGN to LETTER", ITEM_ARGUMENTS);
        for (int outside : Bounds.outside(6)) {
            b.badArgument(States::allLociStand, "kind " + outside, x -> x.item(outside, 0, 0, 1));
            b.badArgument(States::none, "kind " + outside + ", the rest wild", x -> x.item(outside, -1, 99, 99));
        }
        HandArchive x = States.allLociStand();
        b.due("SIGN is 0", x.item(0, 2, 0, 0), 5);
        b.due("of the shape of the sign", x.signed(4, 0), 2);
        b.due("POINT is 2", x.item(2, 3, 0, 0), 6);
        b.due("RELEASE is 3", x.item(3, 3, 0, 0), 7);
        b.due("and does release", x.standsFor(6, 3), NONE);
        b.due("SET is 1", x.item(1, 3, 9, 0), 8);
        b.due("and does set", x.standsFor(7, 3), 9);
        b.due("VERB is 4", x.item(4, 0, 3, 2), 9);
        b.due("and goes", x.signed(8, 1), 2);
        b.due("LETTER is 5", x.item(5, 25, 0, 0), 10);
        b.due("at its place", x.signed(9, 1), 4);
    }

    private static void signsOfItems(Bounds b) {
        b.says(Bounds.TERMS, "SIGN s");
        b.says(6, "`one`: s, l or c", NO_SIGN_OR_LOCUS);
        for (int outside : Bounds.outside(3)) {
            b.noSuch(States::allLociStand, "SIGN " + outside, x -> x.item(SIGN, outside, 0, 0));
            b.noSuch(States::allLociStand, "VERB " + outside, x -> x.item(VERB, outside, 0, 1));
        }
        b.noSuch(States::none, "SIGN of no signs", x -> x.item(SIGN, 0, 0, 0));
        b.noSuch(States::thirtySigns, "SIGN 30", x -> x.item(SIGN, 30, 0, 0));
        HandArchive x = States.thirtySigns();
        b.due("SIGN 0", x.item(SIGN, 0, 0, 0), 1);
        b.due("SIGN 29", x.item(SIGN, 29, 0, 0), 2);
        b.due("of its shape", x.signed(1, 0), 5);
        b.due("of its second hand", x.signed(1, 5), 2);
    }

    private static void lociOfItems(Bounds b) {
        b.says(Bounds.TERMS, "There are the loci 0 to 3, at the places 3, 5, 0 and 2, and the referents 0 to 9",
                "A pointing has the shape 1, is at the place of its locus, and has the turn 0",
                "A pointing and a LETTER do not go anywhere, and have no second hand");
        int[] places = {3, 5, 0, 2};
        for (int locus = 0; locus < 4; locus++) {
            HandArchive x = States.none();
            b.due("SET " + locus, x.item(SET, locus, 0, 0), 1);
            b.due("POINT " + locus, x.item(POINT, locus, 0, 0), 2);
            b.due("RELEASE " + locus, x.item(RELEASE, locus, 0, 0), 3);
            for (int item = 0; item < 3; item++) {
                int[] due = {1, places[locus], places[locus], 0, 0, 0};
                for (int what = 0; what < due.length; what++) {
                    b.due("pointing at " + locus + ", " + what, x.signed(item, what), due[what]);
                }
            }
        }
        b.says(6, NO_SIGN_OR_LOCUS, "`one`: s, l or c", "`other`: r or l", "`last`: m");
        for (int outside : Bounds.outside(4)) {
            b.noSuch(States::allLociStand, "SET " + outside, x -> x.item(SET, outside, 9, 0));
            b.noSuch(States::allLociStand, "POINT " + outside, x -> x.item(POINT, outside, 0, 0));
            b.noSuch(States::allLociStand, "RELEASE " + outside, x -> x.item(RELEASE, outside, 0, 0));
            b.noSuch(States::allLociStand, "VERB from " + outside, x -> x.item(VERB, 0, outside, 0));
            b.noSuch(States::allLociStand, "VERB to " + outside, x -> x.item(VERB, 0, 0, outside));
        }
    }

    private static void referents(Bounds b) {
        b.says(Bounds.TERMS, "SET l r: a pointing at the locus l, which stands for r from then on");
        b.says(6, "`other`: r or l", ITEM_ARGUMENTS);
        for (int outside : Bounds.outside(10)) {
            b.badArgument(States::oneLocusStands, "SET for " + outside, x -> x.item(SET, 3, outside, 0));
        }
        for (int referent = 0; referent < 10; referent++) {
            HandArchive x = States.none();
            b.due("SET for " + referent, x.item(SET, 3, referent, 0), 1);
            b.due("stands for it", x.standsFor(0, 3), referent);
        }
    }

    private static void letters(Bounds b) {
        b.says(Bounds.TERMS, "LETTER c: 0 to 25, of the shape that is c's remainder by 8, at the place 4, with the turn "
                + "that is c divided by 8, rounded down",
                "A pointing and a LETTER do not go anywhere, and have no second hand");
        b.says(6, "`one`: s, l or c", ITEM_ARGUMENTS);
        for (int outside : Bounds.outside(26)) {
            b.badArgument(States::allLociStand, "LETTER " + outside, x -> x.item(LETTER, outside, 0, 0));
        }
        int[] letters = {0, 7, 8, 15, 16, 23, 24, 25};
        int[] shapes = {0, 7, 0, 7, 0, 7, 0, 1};
        int[] turns = {0, 0, 1, 1, 2, 2, 3, 3};
        HandArchive x = States.none();
        for (int i = 0; i < letters.length; i++) {
            b.due("LETTER " + letters[i], x.item(LETTER, letters[i], 0, 0), i + 1);
            int[] due = {shapes[i], 4, 4, turns[i], turns[i], 0};
            for (int what = 0; what < due.length; what++) {
                b.due("LETTER " + letters[i] + ", " + what, x.signed(i, what), due[what]);
            }
        }
    }

    private static void whatDoesNotMatter(Bounds b) {
        b.says(6, "otherwise it does not matter");
        for (int wild : WILD) {
            HandArchive x = States.threeSigns();
            b.due("SIGN, " + wild, x.item(SIGN, 0, wild, wild), 1);
            b.due("SET, " + wild, x.item(SET, 0, 9, wild), 2);
            b.due("POINT, " + wild, x.item(POINT, 0, wild, wild), 3);
            b.due("RELEASE, " + wild, x.item(RELEASE, 0, wild, wild), 4);
            b.due("LETTER, " + wild, x.item(LETTER, 25, wild, wild), 5);
            b.due("the referent is that told", x.standsFor(2, 0), 9);
            b.due("the pointing is where it is told", x.signed(2, 1), 3);
        }
    }

    private static void fourteen(Bounds b) {
        b.says(Bounds.TERMS, "There is one utterance, a row of at most 14 items, empty at first");
        b.says(6, "Adds an item", "Returns how many items there are then", ITEM_STATES);
        HandArchive x = States.threeSigns();
        b.due("empty at first", x.clear(), 0);
        for (int i = 0; i < 14; i++) {
            b.due("item " + i, x.item(SIGN, i % 3, 0, 0), i + 1);
        }
        b.throwsJust(IllegalStateException.class, "the 15th", () -> x.item(SIGN, 0, 0, 0));
        b.due("the last one is there", x.signed(13, 0), 6);
        b.badState(States::fourteenItems, "SIGN, the 15th", y -> y.item(SIGN, 0, 0, 0));
        b.badState(States::fourteenItems, "SET, the 15th", y -> y.item(SET, 3, 9, 0));
        b.badState(States::fourteenItems, "POINT, the 15th", y -> y.item(POINT, 0, 0, 0));
        b.badState(States::fourteenItems, "RELEASE, the 15th", y -> y.item(RELEASE, 1, 0, 0));
        b.badState(States::fourteenItems, "VERB, the 15th", y -> y.item(VERB, 0, 0, 1));
        b.badState(States::fourteenItems, "LETTER, the 15th", y -> y.item(LETTER, 0, 0, 0));
    }

    private static void sets(Bounds b) {
        b.says(Bounds.TERMS, "it has to stand for nobody, and nobody else for r");
        b.says(6, ITEM_STATES);
        b.badState(States::oneLocusStands, "SET of one that stands", x -> x.item(SET, 0, 9, 0));
        b.badState(States::oneLocusStands, "SET of one that stands for just r", x -> x.item(SET, 0, 2, 0));
        for (int locus = 1; locus < 4; locus++) {
            int free = locus;
            b.badState(States::oneLocusStands, "r has another locus", x -> x.item(SET, free, 2, 0));
            HandArchive x = States.oneLocusStands();
            b.due("a free locus for an r that was released", x.item(SET, locus, 3, 0), 6);
        }
        for (int locus = 0; locus < 4; locus++) {
            int taken = locus;
            b.badState(States::allLociStand, "all stand", x -> x.item(SET, taken, 9, 0));
        }
        HandArchive x = States.none();
        x.item(SET, 3, 0, 0);
        b.throwsJust(IllegalStateException.class, "the referent 0 is somebody", () -> x.item(SET, 3, 1, 0));
        b.throwsJust(IllegalStateException.class, "who has a locus", () -> x.item(SET, 0, 0, 0));
        b.due("POINT at that for 0", x.item(POINT, 3, 0, 0), 2);
        b.due("RELEASE", x.item(RELEASE, 3, 0, 0), 3);
        b.due("SET anew, the same locus and r", x.item(SET, 3, 0, 0), 4);
    }

    private static void pointsAndReleases(Bounds b) {
        b.says(Bounds.TERMS, "POINT l: a pointing at a locus that stands for somebody",
                "RELEASE l: likewise, and it stands for nobody then", STANDS);
        b.says(6, ITEM_STATES);
        for (int locus = 1; locus < 4; locus++) {
            int free = locus;
            b.badState(States::oneLocusStands, "POINT at nobody: " + locus, x -> x.item(POINT, free, 0, 0));
            b.badState(States::oneLocusStands, "RELEASE of nobody: " + locus, x -> x.item(RELEASE, free, 0, 0));
        }
        HandArchive x = States.oneLocusStands();
        b.due("POINT", x.item(POINT, 0, 0, 0), 6);
        b.due("does not release", x.item(RELEASE, 0, 0, 0), 7);
        b.throwsJust(IllegalStateException.class, "POINT when released", () -> x.item(POINT, 0, 0, 0));
        b.throwsJust(IllegalStateException.class, "RELEASE when released", () -> x.item(RELEASE, 0, 0, 0));
    }

    private static void verbs(Bounds b) {
        b.says(Bounds.TERMS, "VERB s l m: the sign s, from the place of the one locus to that of the other one, which "
                + "are two, and stand for somebody");
        int[] places = {3, 5, 0, 2};
        for (int pair = 0; pair < 16; pair++) {
            int from = pair / 4;
            int to = pair % 4;
            HandArchive x = States.allLociStand();
            if (from == to) {
                b.badArgument(States::allLociStand, "VERB within " + from, y -> y.item(VERB, 0, from, to));
            } else {
                b.due("VERB", x.item(VERB, 2, from, to), 5);
                int[] due = {2, places[from], places[to], 1, 3, 1};
                for (int what = 0; what < due.length; what++) {
                    b.due("VERB " + from + " " + to + ", " + what, x.signed(4, what), due[what]);
                }
            }
        }
        b.says(6, ITEM_STATES, "`last`: m");
        for (int locus = 1; locus < 4; locus++) {
            int free = locus;
            b.badState(States::oneLocusStands, "VERB to nobody: " + locus, x -> x.item(VERB, 0, 0, free));
            b.badState(States::oneLocusStands, "VERB from nobody: " + locus, x -> x.item(VERB, 0, free, 0));
        }
        b.badState(States::oneLocusStands, "VERB between nobodies", x -> x.item(VERB, 0, 1, 2));
    }

    private static void orderOfItem(Bounds b) {
        b.says(Bounds.TERMS, Bounds.FIRST_LISTED);
        b.says(6, NO_SIGN_OR_LOCUS, ITEM_ARGUMENTS);
        b.noSuch(States::allLociStand, "no such locus, no such r", x -> x.item(SET, 4, 10, 0));
        b.noSuch(States::allLociStand, "no such sign, within a locus", x -> x.item(VERB, 3, 0, 0));
        b.noSuch(States::allLociStand, "within no such locus", x -> x.item(VERB, 0, 4, 4));
        b.noSuch(States::allLociStand, "within no such locus, below", x -> x.item(VERB, 0, -1, -1));
        b.says(6, NO_SIGN_OR_LOCUS, ITEM_STATES);
        b.noSuch(States::fourteenItems, "of 14, no such sign", x -> x.item(SIGN, 3, 0, 0));
        b.noSuch(States::fourteenItems, "of 14, no such sign of a VERB", x -> x.item(VERB, 3, 0, 1));
        b.noSuch(States::fourteenItems, "of 14, no such locus", x -> x.item(SET, 4, 9, 0));
        b.noSuch(States::fourteenItems, "of 14, none to point at", x -> x.item(POINT, -1, 0, 0));
        b.noSuch(States::fourteenItems, "of 14, none to release", x -> x.item(RELEASE, 4, 0, 0));
        b.noSuch(States::fourteenItems, "of 14, none to go to", x -> x.item(VERB, 0, 0, 4));
        b.noSuch(States::threeSigns, "no such sign, loci for nobody", x -> x.item(VERB, 3, 0, 1));
        b.noSuch(States::threeSigns, "no such locus, the other for nobody", x -> x.item(VERB, 0, 0, 4));
        b.says(6, ITEM_ARGUMENTS, ITEM_STATES);
        b.badArgument(States::fourteenItems, "of 14, no such kind", x -> x.item(6, 0, 0, 0));
        b.badArgument(States::fourteenItems, "of 14, no such r", x -> x.item(SET, 3, 10, 0));
        b.badArgument(States::fourteenItems, "of 14, no such c", x -> x.item(LETTER, 26, 0, 0));
        b.badArgument(States::fourteenItems, "of 14, within a locus", x -> x.item(VERB, 0, 1, 1));
        b.badArgument(States::allLociStand, "no such r, of a locus that stands", x -> x.item(SET, 0, -1, 0));
        b.badArgument(States::threeSigns, "within a locus for nobody", x -> x.item(VERB, 0, 2, 2));
    }

    private static void clears(Bounds b) {
        b.says(7, "Empties the utterance", "@return how many items it had");
        HandArchive x = States.none();
        b.due("of none", x.clear(), 0);
        HandArchive full = States.fourteenItems();
        full.rule(1);
        full.take(4);
        b.due("of 14", full.clear(), 14);
        b.due("once more", full.clear(), 0);
        b.throwsJust(IndexOutOfBoundsException.class, "no item 0", () -> full.signed(0, 0));
        b.due("no tick 0", full.at(0, 7), NONE);
        b.throwsJust(IllegalStateException.class, "no locus stands", () -> full.item(POINT, 0, 0, 0));
        b.due("signs stay", full.item(SIGN, 2, 0, 0), 1);
        b.due("all loci are free, for all", full.item(SET, 0, 3, 0), 2);
        b.due("rules stay", full.signed(1, 0), 2);
        b.due("clips stay", full.persons(0), 16);
        b.due("of 2", full.clear(), 2);
        b.says(7, "faces go");
        HandArchive faces = States.eightFaces();
        faces.clear();
        for (int item = 0; item < 14; item++) {
            faces.item(SIGN, 0, 0, 0);
            b.due("none is shown", faces.shown(item, 0), NONE);
        }
        b.due("none is there", faces.face(0, 0, 13), 1);
    }

    private static void facesAndSpans(Bounds b) {
        b.says(Bounds.TERMS, "A face is over a span of items, from one to another one: 0 the brows are up, 1 the brows "
                + "are down, 2 the head shakes, 3 the mouth is puffed");
        b.says(8, "Lets a face be over a span", "`face`: 0 to 3", "`from`: an item", "`to`: an item, from or behind it",
                "Returns how many faces there are then");
        for (int face = 0; face < 4; face++) {
            int articulator = face == 0 ? 0 : face - 1;
            HandArchive x = States.fourteenItems();
            b.due("over the first item alone", x.face(face, 0, 0), 1);
            b.due("over the last item alone", x.face(face, 13, 13), 2);
            b.due("shown over the first", x.shown(0, articulator), face);
            b.due("shown over the last", x.shown(13, articulator), face);
            HandArchive y = States.fourteenItems();
            b.due("over all", y.face(face, 0, 13), 1);
            b.due("shown over the first", y.shown(0, articulator), face);
            b.due("shown over the last", y.shown(13, articulator), face);
        }
        b.says(8, NO_ITEM_OF_BOTH, "`from`: an item", "`to`: an item, from or behind it");
        for (int outside : Bounds.outside(3)) {
            b.noSuch(States::twoFaces, "from " + outside, x -> x.face(3, outside, 2));
            b.noSuch(States::twoFaces, "to " + outside, x -> x.face(3, 2, outside));
        }
        b.noSuch(States::threeSigns, "of no items", x -> x.face(0, 0, 0));
        b.noSuch(States::fourteenItems, "to 14", x -> x.face(0, 0, 14));
        b.says(8, FACE_ARGUMENTS, "`face`: 0 to 3");
        for (int outside : Bounds.outside(4)) {
            b.badArgument(States::twoFaces, "face " + outside, x -> x.face(outside, 2, 2));
        }
        b.says(8, FACE_ARGUMENTS, "`to`: an item, from or behind it");
        b.badArgument(States::twoFaces, "to the one ahead", x -> x.face(3, 1, 0));
        b.badArgument(States::fourteenItems, "to the first from the last", x -> x.face(0, 13, 0));
    }

    private static void eight(Bounds b) {
        b.says(Bounds.TERMS, "There are at most 8");
        b.says(8, "Returns how many faces there are then", FACE_STATES);
        HandArchive x = States.fourteenItems();
        for (int i = 0; i < 8; i++) {
            b.due("face " + i, x.face(2, i, i), i + 1);
        }
        b.throwsJust(IllegalStateException.class, "the 9th", () -> x.face(3, 0, 0));
        b.due("the 8th is shown", x.shown(7, 1), 2);
        b.badState(States::eightFaces, "the 9th, of the brows", y -> y.face(0, 13, 13));
        b.badState(States::eightFaces, "the 9th, of the mouth", y -> y.face(3, 0, 0));
    }

    private static void inCommon(Bounds b) {
        b.says(Bounds.TERMS, "faces of the same articulator have no item in common", "0 and 1 are of the brows");
        b.says(8, FACE_STATES);
        Bounds.State brows = () -> {
            HandArchive x = States.fourteenItems();
            x.face(0, 5, 7);
            return x;
        };
        int[][] busy = {{5, 7}, {5, 5}, {7, 7}, {6, 6}, {4, 5}, {7, 8}, {0, 13}, {4, 8}, {0, 5}, {7, 13}};
        for (int[] span : busy) {
            for (int face = 0; face < 2; face++) {
                int own = face;
                b.badState(brows, "face " + face + " over " + span[0] + " to " + span[1],
                        x -> x.face(own, span[0], span[1]));
            }
            HandArchive x = brows.make();
            b.due("the head has none in common", x.face(2, span[0], span[1]), 2);
            b.due("nor has the mouth", x.face(3, span[0], span[1]), 3);
        }
        int[][] free = {{0, 4}, {4, 4}, {8, 8}, {8, 13}};
        for (int[] span : free) {
            for (int face = 0; face < 2; face++) {
                b.due("face " + face + " next to it, " + span[0], brows.make().face(face, span[0], span[1]), 2);
            }
        }
        for (int face = 2; face < 4; face++) {
            int own = face;
            HandArchive x = States.fourteenItems();
            x.face(face, 0, 0);
            b.throwsJust(IllegalStateException.class, "of the same face", () -> x.face(own, 0, 1));
            b.due("the other one", x.face(5 - face, 0, 1), 2);
        }
        HandArchive shown = States.fourteenItems();
        shown.face(0, 4, 4);
        b.due("over an item where one is only shown", shown.face(1, 5, 5), 2);
    }

    private static void orderOfFace(Bounds b) {
        b.says(Bounds.TERMS, Bounds.FIRST_LISTED);
        b.says(8, NO_ITEM_OF_BOTH, FACE_ARGUMENTS);
        b.noSuch(States::twoFaces, "no such face, from no item", x -> x.face(4, 3, 2));
        b.noSuch(States::twoFaces, "no such face, to no item", x -> x.face(-1, 2, 3));
        b.noSuch(States::twoFaces, "ahead of from, that is no item", x -> x.face(3, 3, 0));
        b.noSuch(States::twoFaces, "no item, ahead of from", x -> x.face(3, 0, -1));
        b.says(8, NO_ITEM_OF_BOTH, FACE_STATES);
        b.noSuch(States::eightFaces, "of 8, from no item", x -> x.face(3, 14, 13));
        b.noSuch(States::eightFaces, "of 8, to no item", x -> x.face(3, 13, 14));
        b.noSuch(States::twoFaces, "in common, to no item", x -> x.face(0, 0, 3));
        b.noSuch(States::twoFaces, "in common, from no item", x -> x.face(0, -1, 0));
        b.says(8, FACE_ARGUMENTS, FACE_STATES);
        b.badArgument(States::eightFaces, "of 8, no such face", x -> x.face(4, 13, 13));
        b.badArgument(States::eightFaces, "of 8, ahead of from", x -> x.face(3, 13, 12));
        b.badArgument(States::twoFaces, "in common, ahead of from", x -> x.face(2, 1, 0));
    }

    private static void shownBounds(Bounds b) {
        b.says(9, "Tells which face is shown at an item", "Returns the face", "NONE", "`item`: the item",
                "`articulator`: 0 the brows, 1 the head, 2 the mouth");
        HandArchive x = States.twoFaces();
        int[][] due = {{0, 2, NONE}, {NONE, 2, NONE}, {NONE, NONE, NONE}};
        for (int item = 0; item < 3; item++) {
            for (int articulator = 0; articulator < 3; articulator++) {
                b.due("shown at " + item + ", " + articulator, x.shown(item, articulator), due[item][articulator]);
            }
        }
        b.says(Bounds.TERMS, SHOWN_OVER);
        HandArchive y = States.fourteenItems();
        y.face(1, 7, 8);
        b.due("ahead of its span", y.shown(6, 0), NONE);
        b.due("at its first item", y.shown(7, 0), 1);
        b.due("at its last item", y.shown(8, 0), 1);
        b.due("behind its span, a LETTER", y.shown(9, 0), NONE);
        b.due("over a letter ahead, of its own", y.face(0, 1, 1) + y.shown(1, 0), 2);
    }

    private static void shownBehind(Bounds b) {
        b.says(Bounds.TERMS, SHOWN_OVER);
        HandArchive x = States.threeSigns();
        x.item(SET, 0, 0, 0);
        x.face(3, 0, 0);
        b.due("at the only item", x.shown(0, 2), 3);
        for (int i = 1; i < 13; i++) {
            int kind = i % 3 == 0 ? SET : i % 3 == 1 ? POINT : RELEASE;
            x.item(kind, 0, 0, 0);
            b.due("over all pointings behind it, up to the last: " + i, x.shown(i, 2), 3);
        }
        x.item(SIGN, 0, 0, 0);
        b.due("not over a SIGN", x.shown(13, 2), NONE);
        b.due("not of another articulator", x.shown(12, 1), NONE);
        HandArchive y = States.allLociStand();
        y.face(0, 0, 0);
        y.face(1, 2, 2);
        y.face(2, 1, 1);
        int[] brows = {0, 0, 1, 1};
        int[] head = {NONE, 2, 2, 2};
        for (int i = 0; i < 4; i++) {
            b.due("until the span of another one, at " + i, y.shown(i, 0), brows[i]);
            b.due("the head, whatever the brows do, at " + i, y.shown(i, 1), head[i]);
        }
        int[][] ends = {{SIGN, 0, 0, 0}, {VERB, 0, 0, 1}, {LETTER, 0, 0, 0}};
        for (int[] a : ends) {
            HandArchive z = States.allLociStand();
            z.face(2, 0, 3);
            z.item(a[0], a[1], a[2], a[3]);
            z.item(POINT, 0, 0, 0);
            b.due("at the end of its span", z.shown(3, 1), 2);
            b.due("not over the kind " + a[0], z.shown(4, 1), NONE);
            b.due("nor behind that", z.shown(5, 1), NONE);
        }
    }

    private static void shownRefused(Bounds b) {
        String noItem = "Throws `IndexOutOfBoundsException` if there is no such item";
        String noArticulator = "Throws `IllegalArgumentException` if articulator is out of its range";
        b.says(9, noItem, "`item`: the item");
        for (int outside : Bounds.outside(3)) {
            b.noSuch(States::twoFaces, "shown at " + outside, x -> x.shown(outside, 0));
        }
        b.noSuch(States::none, "shown at none", x -> x.shown(0, 0));
        b.noSuch(States::eightFaces, "shown at 14", x -> x.shown(14, 0));
        b.says(9, noArticulator, "`articulator`: 0 the brows, 1 the head, 2 the mouth");
        for (int outside : Bounds.outside(3)) {
            b.badArgument(States::twoFaces, "articulator " + outside, x -> x.shown(0, outside));
        }
        b.says(Bounds.TERMS, Bounds.FIRST_LISTED);
        b.says(9, noItem, noArticulator);
        b.noSuch(States::twoFaces, "neither an item nor an articulator", x -> x.shown(3, 3));
        b.noSuch(States::none, "neither, below", x -> x.shown(-1, -1));
    }

    private static void standsForBounds(Bounds b) {
        b.says(Bounds.TERMS, STANDS);
        b.says(10, "Tells for whom a locus stands behind an item", "`item`: the item", "`locus`: 0 to 3",
                "Returns the referent", "NONE");
        HandArchive x = States.threeSigns();
        x.item(LETTER, 0, 0, 0);
        x.item(SET, 0, 0, 0);
        x.item(SET, 3, 9, 0);
        x.item(RELEASE, 0, 0, 0);
        x.item(SET, 0, 1, 0);
        x.item(RELEASE, 3, 0, 0);
        int[][] due = {{NONE, 0, 0, NONE, 1, 1}, {NONE, NONE, NONE, NONE, NONE, NONE},
            {NONE, NONE, NONE, NONE, NONE, NONE}, {NONE, NONE, 9, 9, 9, NONE}};
        for (int locus = 0; locus < 4; locus++) {
            for (int item = 0; item < 6; item++) {
                b.due("locus " + locus + " behind " + item, x.standsFor(item, locus), due[locus][item]);
            }
        }
        HandArchive full = States.fourteenItems();
        b.due("behind the last of 14", full.standsFor(13, 1), 3);
        b.due("behind the last of 14, released", full.standsFor(13, 2), NONE);
    }

    private static void standsForRefused(Bounds b) {
        b.says(10, "Throws `IndexOutOfBoundsException` if there is no such item or locus", "`item`: the item",
                "`locus`: 0 to 3");
        for (int outside : Bounds.outside(5)) {
            b.noSuch(States::oneLocusStands, "behind " + outside, x -> x.standsFor(outside, 0));
        }
        for (int outside : Bounds.outside(4)) {
            b.noSuch(States::oneLocusStands, "locus " + outside, x -> x.standsFor(0, outside));
        }
        b.noSuch(States::none, "of no items", x -> x.standsFor(0, 0));
        b.noSuch(States::fourteenItems, "behind 14", x -> x.standsFor(14, 0));
    }
}
