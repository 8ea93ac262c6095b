/** Promises 13 and 14: signed and at. */
public final class FigureTest {
    private static final int SIGN = HandArchive.SIGN, SET = HandArchive.SET, POINT = HandArchive.POINT;
    private static final int VERB = HandArchive.VERB, LETTER = HandArchive.LETTER;
    private static final int NONE = HandArchive.NONE;
    private static final Check CHECK = new Check();

    public static void main(String[] args) {
        ticksOfItems();
        passings();
        ways();
        turns();
        rows();
        asRulesLeft();
        wrongArguments();
        CHECK.end();
    }

    private static void ticksOfItems() {
        for (int from = 0; from < 9; from++) {
            for (int to = 0; to < 9; to++) {
                HandArchive x = new HandArchive();
                x.sign(0, from, to, 0, 0, 0, 0);
                x.item(SIGN, 0, 0, 0);
                int distance = Math.abs(from / 3 - to / 3) + Math.abs(from % 3 - to % 3);
                CHECK.due("behind " + from + " " + to, x.signed(0, 8), from == to ? 3 : 4 + distance);
                CHECK.due("begins", x.signed(0, 7), 0);
                CHECK.due("without a passing", x.signed(0, 6), 0);
            }
        }
        HandArchive x = new HandArchive();
        x.sign(0, 4, 4, 0, 1, 0, 0);
        x.item(SIGN, 0, 0, 0);
        CHECK.due("unlike turns", x.signed(0, 8), 5);
    }

    private static void passings() {
        HandArchive x = new HandArchive();
        x.sign(0, 4, 4, 0, 0, 0, 0);
        x.sign(0, 4, 4, 0, 0, 1, 0);
        x.sign(2, 4, 4, 0, 0, 1, 0);
        x.sign(2, 4, 4, 3, 3, 1, 0);
        x.sign(2, 8, 5, 3, 2, 1, 0);
        x.sign(2, 5, 4, 2, 0, 1, 0);
        for (int i = 0; i < 6; i++) {
            x.item(SIGN, i, 0, 0);
        }
        times(x, 0, 0, 0, 3);
        times(x, 1, 3, 3, 6);
        times(x, 2, 6, 7, 10);
        times(x, 3, 10, 11, 14);
        times(x, 4, 14, 16, 21);
        times(x, 5, 21, 21, 26);
        x.item(SIGN, 2, 0, 0);
        times(x, 6, 26, 26, 29);
    }

    private static void times(HandArchive x, int item, int passing, int begins, int behind) {
        CHECK.due("passing of " + item, x.signed(item, 6), passing);
        CHECK.due("begin of " + item, x.signed(item, 7), begins);
        CHECK.due("behind " + item, x.signed(item, 8), behind);
    }

    private static void ways() {
        HandArchive x = new HandArchive();
        x.sign(0, 0, 8, 0, 0, 0, 0);
        x.sign(0, 6, 2, 0, 0, 0, 0);
        x.item(SIGN, 0, 0, 0);
        x.item(SIGN, 1, 0, 0);
        // First by columns, then by rows; between them two steps to the left.
        int[] places = {0, 0, 1, 2, 5, 8, 8, 8, 7, 6, 6, 6, 7, 8, 5, 2, 2, 2, NONE, NONE};
        for (int tick = 0; tick < places.length; tick++) {
            CHECK.due("place at " + tick, x.at(tick, 1), places[tick]);
        }
        between();
        HandArchive y = new HandArchive();
        y.sign(0, 8, 8, 0, 0, 0, 0);
        y.sign(0, 0, 0, 0, 0, 0, 0);
        y.item(SIGN, 0, 0, 0);
        y.item(SIGN, 1, 0, 0);
        y.item(SIGN, 0, 0, 0);
        int[] back = {8, 8, 8, 7, 6, 3, 0, 0, 0, 0, 1, 2, 5, 8, 8, 8, 8, NONE};
        for (int tick = 0; tick < back.length; tick++) {
            CHECK.due("back, place at " + tick, y.at(tick, 1), back[tick]);
        }
    }

    /** A passing goes from where the one ends, not from where it began. */
    private static void between() {
        HandArchive x = new HandArchive();
        x.sign(0, 4, 8, 0, 0, 0, 0);
        x.sign(0, 1, 1, 0, 0, 0, 0);
        x.item(SIGN, 0, 0, 0);
        x.item(SIGN, 1, 0, 0);
        int[] places = {4, 4, 5, 8, 8, 8, 7, 4, 1, 1, 1, 1, NONE};
        for (int tick = 0; tick < places.length; tick++) {
            CHECK.due("between, place at " + tick, x.at(tick, 1), places[tick]);
        }
        times(x, 1, 6, 9, 12);
    }

    private static void turns() {
        HandArchive x = new HandArchive();
        x.sign(0, 4, 4, 1, 3, 0, 0);
        x.sign(5, 3, 5, 0, 2, 1, 0);
        x.item(SIGN, 0, 0, 0);
        x.item(SIGN, 1, 0, 0);
        int[] turn = {1, 1, 3, 3, 3, 0, 0, 0, 2, 2, 2, 2, NONE};
        int[] shape = {0, 0, 0, 0, 0, 5, 5, 5, 5, 5, 5, 5, NONE};
        int[] second = {0, 0, 0, 0, 0, 0, 1, 1, 1, 1, 1, 1, NONE};
        int[] item = {0, 0, 0, 0, 0, 1, 1, 1, 1, 1, 1, 1, NONE};
        int[] place = {4, 4, 4, 4, 4, 3, 3, 3, 4, 5, 5, 5, NONE};
        for (int tick = 0; tick < turn.length; tick++) {
            CHECK.due("turn at " + tick, x.at(tick, 2), turn[tick]);
            CHECK.due("shape at " + tick, x.at(tick, 0), shape[tick]);
            CHECK.due("second at " + tick, x.at(tick, 3), second[tick]);
            CHECK.due("item at " + tick, x.at(tick, 7), item[tick]);
            CHECK.due("place at " + tick, x.at(tick, 1), place[tick]);
        }
    }

    private static void rows() {
        HandArchive x = new HandArchive();
        x.sign(3, 8, 8, 1, 1, 2, 3);
        x.item(SET, 0, 0, 0);
        x.item(SIGN, 0, 0, 0);
        x.item(POINT, 0, 0, 0);
        x.face(1, 1, 1);
        x.face(2, 0, 0);
        x.face(3, 2, 2);
        // 3 held, 3 passing, 3 held, 3 passing, 3 held.
        for (int tick = 0; tick < 15; tick++) {
            int item = tick < 3 ? 0 : tick < 9 ? 1 : 2;
            CHECK.due("brows at " + tick, x.at(tick, 4), item == 0 ? NONE : 1);
            CHECK.due("head at " + tick, x.at(tick, 5), item == 0 ? 2 : NONE);
            CHECK.due("mouth at " + tick, x.at(tick, 6), item == 2 ? 3 : NONE);
            CHECK.due("item at " + tick, x.at(tick, 7), item);
            CHECK.due("second at " + tick, x.at(tick, 3), tick >= 6 && tick < 9 ? 2 : 0);
            CHECK.due("shape at " + tick, x.at(tick, 0), item == 1 ? 3 : 1);
        }
        for (int what = 0; what < 8; what++) {
            CHECK.due("ended, " + what, x.at(15, what), NONE);
            CHECK.due("long ended, " + what, x.at(Integer.MAX_VALUE, what), NONE);
        }
        x.clear();
        for (int what = 0; what < 8; what++) {
            CHECK.due("empty, " + what, x.at(0, what), NONE);
        }
    }

    private static void asRulesLeft() {
        HandArchive x = new HandArchive();
        x.item(LETTER, 0, 0, 0);
        x.item(LETTER, 0, 0, 0);
        x.item(LETTER, 0, 0, 0);
        times(x, 0, 0, 0, 3);
        times(x, 1, 3, 3, 6);
        times(x, 2, 6, 6, 9);
        x.rule(4);
        times(x, 1, 3, 3, 8);
        times(x, 2, 8, 9, 14);
        CHECK.due("on the way", x.at(5, 1), 5);
        CHECK.due("and back", x.at(8, 1), 4);
        x.clear();
        x.sign(4, 4, 4, 2, 2, 0, 0);
        x.rule(1);
        x.rule(2);
        x.item(SET, 0, 0, 0);
        x.item(SET, 1, 1, 0);
        x.item(VERB, 0, 0, 1);
        CHECK.due("the shape as it is left", x.at(3, 0), 4);
        CHECK.due("the verb begins turned", x.at(x.signed(2, 7), 2), 0);
        CHECK.due("and ends as it does", x.at(x.signed(2, 8) - 1, 2), 2);
    }

    private static void wrongArguments() {
        HandArchive x = new HandArchive();
        CHECK.noSuch("signed: no item", () -> x.signed(0, 0));
        CHECK.badArgument("at: what above, when it has ended", () -> x.at(0, 8));
        x.item(LETTER, 0, 0, 0);
        CHECK.noSuch("signed: item below", () -> x.signed(-1, 0));
        CHECK.noSuch("signed: item above", () -> x.signed(1, 0));
        CHECK.noSuch("signed: the item is looked at first", () -> x.signed(1, 9));
        CHECK.badArgument("signed: what above", () -> x.signed(0, 9));
        CHECK.badArgument("signed: what below", () -> x.signed(0, -1));
        CHECK.noSuch("at: below", () -> x.at(-1, 0));
        CHECK.noSuch("at: far below", () -> x.at(Integer.MIN_VALUE, 0));
        CHECK.noSuch("at: the tick is looked at first", () -> x.at(-1, 8));
        CHECK.badArgument("at: what above", () -> x.at(0, 8));
        CHECK.badArgument("at: what below", () -> x.at(0, -1));
    }
}
