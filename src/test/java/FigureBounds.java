import java.util.ArrayList;
import java.util.List;

/** Promises 13 to 15 at their bounds: what is signed, the figure at ticks, and what is read back. */
final class FigureBounds {
    private static final int NONE = HandArchive.NONE;
    private static final int SIGN = HandArchive.SIGN, SET = HandArchive.SET, POINT = HandArchive.POINT;
    private static final int RELEASE = HandArchive.RELEASE, VERB = HandArchive.VERB, LETTER = HandArchive.LETTER;
    private static final int LIKEN = 1, TURN = 2, SLIDE = 4;
    private static final String NO_ITEM = "Throws `IndexOutOfBoundsException` if there is no such item";
    private static final String NO_TICK = "Throws `IndexOutOfBoundsException` if tick is below 0";
    private static final String NO_WHAT = "Throws `IllegalArgumentException` if what is out of its range";
    private static final String SIGNED_WHAT = "`what`: 0 its shape, 1 from, 2 to, 3 begin, 4 end, 5 second, 6 the tick "
            + "at which its passing begins, or itself without one, 7 that at which it begins, 8 that behind it";
    private static final String AT_WHAT = "`what`: 0 the shape, 1 the place, 2 the turn, 3 the second hand (0 in a "
            + "passing), 4 the brows, 5 the head, 6 the mouth: the face that is shown at the item, NONE without (in "
            + "its passing as well as behind that)";
    private static final String TAKES = "An item takes: if it goes from a place to another one, or its turns are unlike, "
            + "2 ticks that are held at the beginning, then as many as the distance, at least 1, and 2 that are held "
            + "at the end";
    private static final String PASSES = "Between two items that do not end and begin with the same shape, place and "
            + "turn there are as many ticks as the distance from where the one ends to where the other one begins, at "
            + "least 1, of a passing, which belongs to the next item, but to no word";
    private static final String ON_THE_WAY = "In the ticks that are not held, the n-th of them, from 1 on: the place is "
            + "n steps on the way, first by columns, then by rows, at most at its end";
    private static final String JUST_SIGNS = "What is read back from an item as it is signed are the signs with just its "
            + "shape, places, turns and second hand, with a base its shape";
    private static final String A_POINTING = "Of a LETTER or pointing, as it is signed: a pointing, if it does not go "
            + "anywhere, its place is that of a locus, its turn 0 and its shape 1";
    private static final String A_LETTER =
            "otherwise a LETTER, if its place, turn and shape are those of one, and it does not go anywhere";

    private FigureBounds() {
    }

    static void all(Bounds b) {
        ticksOfItems(b);
        passings(b);
        noPassings(b);
        rowOfTicks(b);
        ways(b);
        waysOfTheLast(b);
        faces(b);
        ended(b);
        signedRefused(b);
        atRefused(b);
        readsWhatWasSaid(b);
        readsJustSigns(b);
        readsPointings(b);
        readsLetters(b);
        readBackRefused(b);
    }

    private static int apart(int place, int other) {
        return Math.abs(place / 3 - other / 3) + Math.abs(place % 3 - other % 3);
    }

    /** The places of a way, without that where it begins; one at least. */
    private static List<Integer> way(int from, int to) {
        List<Integer> places = new ArrayList<>();
        int column = from % 3;
        int row = from / 3;
        while (column != to % 3) {
            column += Integer.compare(to % 3, column);
            places.add(3 * row + column);
        }
        while (row != to / 3) {
            row += Integer.compare(to / 3, row);
            places.add(3 * row + column);
        }
        return places.isEmpty() ? List.of(to) : places;
    }

    private static void at(Bounds b, HandArchive x, int tick, int... due) {
        for (int what = 0; what < due.length; what++) {
            b.due("at(" + tick + ", " + what + ")", x.at(tick, what), due[what]);
        }
    }

    private static void ticks(Bounds b, HandArchive x, int item, int passing, int begins, int behind) {
        b.due("passing of " + item, x.signed(item, 6), passing);
        b.due("begin of " + item, x.signed(item, 7), begins);
        b.due("behind " + item, x.signed(item, 8), behind);
    }

    private static void ticksOfItems(Bounds b) {
        b.says(Bounds.TERMS, TAKES, "otherwise 3 ticks that are held", "The distance of two places is how many rows and "
                + "columns they are apart, together");
        b.says(13, "Tells of an item, as rules have left it", SIGNED_WHAT, "Returns as told");
        for (int places = 0; places < 81; places++) {
            int from = places / 9;
            int to = places % 9;
            for (int end = 0; end < 4; end++) {
                HandArchive x = States.none();
                x.sign(7, from, to, 0, end, 0, 0);
                x.item(SIGN, 0, 0, 0);
                boolean isHeld = from == to && end == 0;
                ticks(b, x, 0, 0, 0, isHeld ? 3 : 4 + Math.max(1, apart(from, to)));
            }
        }
        HandArchive x = States.none();
        x.sign(7, 2, 3, 0, 0, 0, 0);
        x.sign(7, 0, 8, 0, 0, 0, 0);
        x.sign(7, 0, 1, 0, 0, 0, 0);
        x.sign(7, 0, 0, 3, 0, 0, 0);
        int[] due = {7, 8, 5, 5};
        for (int sign = 0; sign < due.length; sign++) {
            x.clear();
            x.item(SIGN, sign, 0, 0);
            b.due("ticks of the sign " + sign, x.signed(0, 8), due[sign]);
        }
    }

    /** Of two signs that are held, as near and as far as can be, alike and unlike in shape, turn and second hand. */
    private static void passings(Bounds b) {
        b.says(Bounds.TERMS, PASSES, ON_THE_WAY, "the turn is that with which it ends",
                "in a passing, the shape is already that of the next one");
        b.says(13, SIGNED_WHAT);
        b.says(14, "Tells of the figure at a tick", AT_WHAT, "7 the item, in a passing the next one", "Returns as told");
        int[][] hands = {{2, 1, 0}, {5, 1, 0}, {2, 0, 0}, {2, 1, 1}, {5, 3, 1}};
        for (int places = 0; places < 81; places++) {
            int first = places / 9;
            int next = places % 9;
            for (int i = 0; i < hands.length; i++) {
                int[] h = hands[i];
                HandArchive x = States.none();
                x.sign(2, first, first, 1, 1, 0, 0);
                boolean isJustSo = first == next && i == 0;
                int sign = isJustSo ? 0 : x.sign(h[0], next, next, h[1], h[1], h[2], 0);
                x.item(SIGN, 0, 0, 0);
                x.item(SIGN, sign, 0, 0);
                boolean isWithout = first == next && h[0] == 2 && h[1] == 1;
                int passing = isWithout ? 0 : Math.max(1, apart(first, next));
                ticks(b, x, 0, 0, 0, 3);
                ticks(b, x, 1, 3, 3 + passing, 6 + passing);
                at(b, x, 2, 2, first, 1, 0, NONE, NONE, NONE, 0);
                for (int n = 1; n <= passing; n++) {
                    at(b, x, 2 + n, h[0], way(first, next).get(n - 1), h[1], 0, NONE, NONE, NONE, 1);
                }
                at(b, x, 3 + passing, h[0], next, h[1], h[2], NONE, NONE, NONE, 1);
                at(b, x, 5 + passing, h[0], next, h[1], h[2], NONE, NONE, NONE, 1);
                b.due("it has ended", x.at(6 + passing, 7), NONE);
            }
        }
    }

    /** Where the one ends and the next one begins is what counts, not where they were or will be. */
    private static void noPassings(Bounds b) {
        b.says(Bounds.TERMS, PASSES);
        HandArchive x = States.none();
        x.sign(3, 0, 8, 0, 2, 0, 0);
        x.sign(3, 8, 0, 2, 0, 1, 0);
        for (int i = 0; i < 14; i++) {
            x.item(SIGN, i % 2, 0, 0);
            ticks(b, x, i, 8 * i, 8 * i, 8 * i + 8);
        }
        HandArchive y = States.none();
        y.sign(3, 0, 8, 0, 2, 0, 0);
        y.item(SIGN, 0, 0, 0);
        y.item(SIGN, 0, 0, 0);
        ticks(b, y, 1, 8, 12, 20);
        int[] places = {7, 6, 3, 0};
        for (int n = 0; n < 4; n++) {
            at(b, y, 8 + n, 3, places[n], 0, 0, NONE, NONE, NONE, 1);
        }
        HandArchive z = States.none();
        for (int i = 0; i < 14; i++) {
            z.item(LETTER, 25, 0, 0);
            ticks(b, z, i, 3 * i, 3 * i, 3 * i + 3);
        }
    }

    private static void rowOfTicks(Bounds b) {
        b.says(Bounds.TERMS, TAKES, ON_THE_WAY, "the turn is that with which it ends");
        b.says(14, "`tick`: from 0", AT_WHAT, "7 the item, in a passing the next one");
        HandArchive x = States.none();
        x.sign(6, 4, 4, 1, 3, 1, 0);
        x.item(SIGN, 0, 0, 0);
        int[] turns = {1, 1, 3, 3, 3};
        for (int tick = 0; tick < 5; tick++) {
            at(b, x, tick, 6, 4, turns[tick], 1, NONE, NONE, NONE, 0);
        }
        b.due("one tick not held, two held at the end", x.at(5, 0), NONE);
        HandArchive y = States.none();
        y.sign(6, 2, 6, 0, 3, 2, 6);
        y.item(SIGN, 0, 0, 0);
        int[] places = {2, 2, 1, 0, 3, 6, 6, 6};
        for (int tick = 0; tick < 8; tick++) {
            at(b, y, tick, 6, places[tick], tick < 2 ? 0 : 3, 2, NONE, NONE, NONE, 0);
        }
        b.due("it has ended", y.at(8, 0), NONE);
    }

    private static void ways(Bounds b) {
        b.says(Bounds.TERMS, ON_THE_WAY);
        for (int places = 0; places < 81; places++) {
            int from = places / 9;
            int to = places % 9;
            HandArchive x = States.none();
            x.sign(0, from, to, 0, 1, 0, 0);
            x.item(SIGN, 0, 0, 0);
            List<Integer> way = way(from, to);
            String name = "from " + from + " to " + to + ", ";
            b.due(name + "held at the beginning", x.at(0, 1), from);
            b.due(name + "held at the beginning, again", x.at(1, 1), from);
            for (int n = 1; n <= way.size(); n++) {
                b.due(name + "step " + n, x.at(1 + n, 1), way.get(n - 1));
            }
            b.due(name + "held at the end", x.at(2 + way.size(), 1), to);
            b.due(name + "held at the end, again", x.at(3 + way.size(), 1), to);
            b.due(name + "behind it", x.at(4 + way.size(), 1), NONE);
        }
    }

    /** The steps of an item are counted from its own beginning, and those of a passing from its own. */
    private static void waysOfTheLast(Bounds b) {
        b.says(Bounds.TERMS, ON_THE_WAY, "the turn is that with which it ends");
        HandArchive x = States.none();
        x.sign(0, 4, 4, 0, 0, 0, 0);
        x.sign(7, 0, 5, 3, 1, 1, 0);
        for (int i = 0; i < 12; i++) {
            x.item(SIGN, 0, 0, 0);
        }
        x.item(SIGN, 1, 0, 0);
        x.item(SIGN, 0, 0, 0);
        ticks(b, x, 12, 36, 38, 45);
        ticks(b, x, 13, 45, 46, 49);
        int[] places = {4, 3, 0, 0, 0, 1, 2, 5, 5, 5, 4, 4, 4, 4, NONE};
        int[] turns = {0, 3, 3, 3, 3, 1, 1, 1, 1, 1, 0, 0, 0, 0, NONE};
        int[] seconds = {0, 0, 0, 1, 1, 1, 1, 1, 1, 1, 0, 0, 0, 0, NONE};
        for (int n = 0; n < places.length; n++) {
            b.due("place at " + (35 + n), x.at(35 + n, 1), places[n]);
            b.due("turn at " + (35 + n), x.at(35 + n, 2), turns[n]);
            b.due("second hand at " + (35 + n), x.at(35 + n, 3), seconds[n]);
        }
    }

    private static void faces(Bounds b) {
        b.says(14, AT_WHAT);
        HandArchive x = States.none();
        x.sign(3, 8, 8, 0, 0, 0, 0);
        x.item(SIGN, 0, 0, 0);
        x.item(SET, 2, 0, 0);
        x.item(SIGN, 0, 0, 0);
        x.face(0, 1, 1);
        x.face(2, 0, 0);
        x.face(3, 2, 2);
        // 3 ticks each, with 4 of a passing between them.
        for (int tick = 0; tick < 18; tick++) {
            int item = tick < 3 ? 0 : tick < 10 ? 1 : tick < 17 ? 2 : NONE;
            b.due("brows at " + tick, x.at(tick, 4), item == 1 ? 0 : NONE);
            b.due("head at " + tick, x.at(tick, 5), item == 0 || item == 1 ? 2 : NONE);
            b.due("mouth at " + tick, x.at(tick, 6), item == 2 ? 3 : NONE);
            b.due("item at " + tick, x.at(tick, 7), item);
        }
    }

    private static void ended(Bounds b) {
        b.says(14, "NONE for all if it has ended", "`tick`: from 0");
        HandArchive none = States.none();
        HandArchive one = States.none();
        one.item(LETTER, 0, 0, 0);
        int[] due = {0, 4, 0, 0, NONE, NONE, NONE, 0};
        for (int what = 0; what < 8; what++) {
            b.due("of no items, " + what, none.at(0, what), NONE);
            b.due("of no items, late, " + what, none.at(Integer.MAX_VALUE, what), NONE);
            b.due("the first tick, " + what, one.at(0, what), due[what]);
            b.due("the last tick, " + what, one.at(2, what), due[what]);
            b.due("the one behind it, " + what, one.at(3, what), NONE);
            b.due("long behind it, " + what, one.at(Integer.MAX_VALUE, what), NONE);
        }
        one.clear();
        b.due("of no items any more", one.at(0, 7), NONE);
    }

    private static void signedRefused(Bounds b) {
        b.says(13, NO_ITEM, "`item`: its place");
        for (int outside : Bounds.outside(5)) {
            b.noSuch(States::oneLocusStands, "signed " + outside, x -> x.signed(outside, 0));
        }
        b.noSuch(States::none, "signed of none", x -> x.signed(0, 0));
        b.noSuch(States::fourteenItems, "signed 14", x -> x.signed(14, 8));
        b.says(13, NO_WHAT, SIGNED_WHAT);
        for (int outside : Bounds.outside(9)) {
            b.badArgument(States::oneLocusStands, "what " + outside, x -> x.signed(0, outside));
        }
        b.says(Bounds.TERMS, Bounds.FIRST_LISTED);
        b.says(13, NO_ITEM, NO_WHAT);
        b.noSuch(States::oneLocusStands, "neither an item nor a what", x -> x.signed(5, 9));
        b.noSuch(States::none, "neither, below", x -> x.signed(-1, -1));
    }

    private static void atRefused(Bounds b) {
        b.says(14, NO_TICK, "`tick`: from 0");
        for (int below : new int[] {-1, -2, -100, Integer.MIN_VALUE}) {
            b.noSuch(States::oneLocusStands, "at " + below, x -> x.at(below, 0));
            b.noSuch(States::none, "at " + below + " of none", x -> x.at(below, 7));
        }
        b.says(14, NO_WHAT, AT_WHAT, "7 the item, in a passing the next one");
        for (int outside : Bounds.outside(8)) {
            b.badArgument(States::oneLocusStands, "what " + outside, x -> x.at(0, outside));
            b.badArgument(States::oneLocusStands, "what " + outside + ", when ended", x -> x.at(10000, outside));
            b.badArgument(States::none, "what " + outside + " of none", x -> x.at(0, outside));
        }
        b.says(Bounds.TERMS, Bounds.FIRST_LISTED);
        b.says(14, NO_TICK, NO_WHAT);
        b.noSuch(States::oneLocusStands, "neither a tick nor a what", x -> x.at(-1, 8));
        b.noSuch(States::none, "neither, of none", x -> x.at(-1, -1));
    }

    private static void read(Bounds b, HandArchive x, int item, int kind, int one, int count) {
        b.due("readBack(" + item + ", 0)", x.readBack(item, 0), kind);
        b.due("readBack(" + item + ", 1)", x.readBack(item, 1), one);
        b.due("readBack(" + item + ", 2)", x.readBack(item, 2), count);
    }

    private static void readsWhatWasSaid(Bounds b) {
        b.says(Bounds.TERMS, "The aim is that what the figure signs is read back as what was said, but for what rules "
                + "and notations are told to lose", A_POINTING, A_LETTER, JUST_SIGNS);
        b.says(15, "Tells what is read back from an item",
                "`what`: 0 the kind: SIGN, POINT, LETTER, NONE if it is none",
                "1 the sign, the first one, the locus or the letter",
                "2 how many signs it could be, 0 for the others", "Returns as told");
        for (int letter = 0; letter < 26; letter++) {
            HandArchive x = States.none();
            // Signs that look like the letter and like a pointing do not matter for a LETTER or pointing.
            x.sign(letter % 8, 4, 4, letter / 8, letter / 8, 0, 0);
            x.item(LETTER, letter, 0, 0);
            x.item(SIGN, 0, 0, 0);
            read(b, x, 0, LETTER, letter, 0);
            read(b, x, 1, SIGN, 0, 1);
        }
        int[] places = {3, 5, 0, 2};
        for (int locus = 0; locus < 4; locus++) {
            HandArchive x = States.none();
            x.sign(1, places[locus], places[locus], 0, 0, 0, 0);
            x.item(SET, locus, 0, 0);
            x.item(POINT, locus, 0, 0);
            x.item(RELEASE, locus, 0, 0);
            x.item(SIGN, 0, 0, 0);
            for (int item = 0; item < 3; item++) {
                read(b, x, item, POINT, locus, 0);
            }
            read(b, x, 3, SIGN, 0, 1);
        }
        HandArchive x = States.thirtySigns();
        for (int sign = 0; sign < 30; sign++) {
            x.clear();
            x.item(SIGN, sign, 0, 0);
            read(b, x, 0, SIGN, sign, 1);
        }
    }

    private static void readsJustSigns(Bounds b) {
        b.says(Bounds.TERMS, JUST_SIGNS);
        b.says(15, "NONE for 1 if it is none", "2 how many signs it could be, 0 for the others",
                "`what`: 0 the kind: SIGN, POINT, LETTER, NONE if it is none");
        // The verb goes from 3 to 5; each of the others is unlike that in one alone.
        int[][] others = {{5, 3, 5, 1, 2, 2, 1}, {6, 4, 5, 1, 2, 2, 1}, {6, 3, 4, 1, 2, 2, 1}, {6, 3, 5, 0, 2, 2, 1},
            {6, 3, 5, 1, 3, 2, 1}, {6, 3, 5, 1, 2, 1, 0}, {6, 3, 5, 1, 2, 0, 0}, {6, 3, 5, 1, 2, 2, 6},
            {6, 3, 5, 1, 2, 2, 0}};
        HandArchive x = States.none();
        x.sign(6, 0, 8, 1, 2, 2, 1);
        x.item(SET, 0, 0, 0);
        x.item(SET, 1, 1, 0);
        x.item(VERB, 0, 0, 1);
        read(b, x, 2, NONE, NONE, 0);
        for (int i = 0; i < others.length; i++) {
            int[] a = others[i];
            b.due("another sign", x.sign(a[0], a[1], a[2], a[3], a[4], a[5], a[6]), 1 + i);
            read(b, x, 2, NONE, NONE, 0);
        }
        b.due("the just one", x.sign(6, 3, 5, 1, 2, 2, 1), 10);
        read(b, x, 2, SIGN, 10, 1);
    }

    private static void readsPointings(Bounds b) {
        b.says(Bounds.TERMS, A_POINTING, "otherwise signs");
        b.says(15, "NONE for 1 if it is none");
        HandArchive x = States.none();
        x.rule(LIKEN);
        x.item(SET, 1, 9, 0);
        read(b, x, 0, POINT, 1, 0);
        x.item(LETTER, 2, 0, 0);
        read(b, x, 0, NONE, NONE, 0);
        x.sign(2, 5, 5, 0, 0, 1, 0);
        read(b, x, 0, NONE, NONE, 0);
        x.sign(2, 5, 5, 0, 0, 0, 0);
        read(b, x, 0, SIGN, 1, 1);
        x.clear();
        x.item(SET, 1, 9, 0);
        x.item(LETTER, 9, 0, 0);
        read(b, x, 0, POINT, 1, 0);
        HandArchive y = States.none();
        y.rule(TURN);
        y.item(LETTER, 16, 0, 0);
        y.item(SET, 3, 9, 0);
        y.item(POINT, 3, 0, 0);
        read(b, y, 0, LETTER, 16, 0);
        read(b, y, 1, NONE, NONE, 0);
        read(b, y, 2, POINT, 3, 0);
        y.sign(1, 2, 2, 2, 0, 0, 0);
        read(b, y, 1, SIGN, 0, 1);
    }

    private static void readsLetters(Bounds b) {
        b.says(Bounds.TERMS, A_LETTER, "otherwise signs");
        b.says(15, "NONE for 1 if it is none");
        HandArchive x = States.none();
        x.rule(SLIDE);
        x.item(LETTER, 25, 0, 0);
        x.item(LETTER, 25, 0, 0);
        read(b, x, 0, LETTER, 25, 0);
        read(b, x, 1, NONE, NONE, 0);
        x.sign(1, 4, 5, 3, 3, 0, 0);
        read(b, x, 1, SIGN, 0, 1);
        HandArchive y = States.none();
        y.rule(TURN);
        y.item(LETTER, 0, 0, 0);
        y.item(LETTER, 16, 0, 0);
        y.item(LETTER, 24, 0, 0);
        y.item(LETTER, 8, 0, 0);
        read(b, y, 0, LETTER, 0, 0);
        read(b, y, 1, NONE, NONE, 0);
        read(b, y, 2, LETTER, 24, 0);
        read(b, y, 3, NONE, NONE, 0);
        y.sign(0, 4, 4, 0, 2, 0, 0);
        y.sign(0, 4, 4, 3, 1, 0, 0);
        read(b, y, 1, SIGN, 0, 1);
        read(b, y, 3, SIGN, 1, 1);
    }

    private static void readBackRefused(Bounds b) {
        b.says(15, NO_ITEM, "`item`: its place");
        for (int outside : Bounds.outside(5)) {
            b.noSuch(States::oneLocusStands, "readBack " + outside, x -> x.readBack(outside, 0));
        }
        b.noSuch(States::none, "readBack of none", x -> x.readBack(0, 0));
        b.noSuch(States::fourteenItems, "readBack 14", x -> x.readBack(14, 1));
        b.says(15, NO_WHAT, "2 how many signs it could be, 0 for the others");
        for (int outside : Bounds.outside(3)) {
            b.badArgument(States::oneLocusStands, "what " + outside, x -> x.readBack(0, outside));
        }
        b.says(Bounds.TERMS, Bounds.FIRST_LISTED);
        b.says(15, NO_ITEM, NO_WHAT);
        b.noSuch(States::oneLocusStands, "neither an item nor a what", x -> x.readBack(5, 3));
        b.noSuch(States::none, "neither, below", x -> x.readBack(-1, -1));
    }
}
