/** Promises 1 to 5 at their bounds: a new object, signs, the nearest one, notations. */
final class SignBounds {
    private static final int NONE = HandArchive.NONE;
    private static final int[] TOLD = {5, 4, 3, 2, 1, 0, 0};
    private static final int[] UNLIKE = {6, 5, 4, 3, 2, 1, 0};
    /** How many values each argument of sign may have, but for the base. */
    private static final int[] BOUNDS = {8, 9, 9, 4, 4, 3};
    private static final String[] RANGES = {"`shape`: 0 to 7", "`from`: 0 to 8", "`to`: 0 to 8",
        "`begin`: the turn at the beginning, 0 to 3", "`end`: the turn at the end, 0 to 3", "`second`: 0 to 2"};
    private static final String SIGN_ARGUMENTS =
            "Throws `IllegalArgumentException` if an argument is out of its range, or base is not one that is possible";
    private static final String SIGN_STATES = "Throws `IllegalStateException` if there are 30, or one is just so";
    private static final String NO_SIGN = "Throws `IndexOutOfBoundsException` if there is no such sign";
    private static final String NO_WHAT = "Throws `IllegalArgumentException` if what is out of its range";
    private static final String NO_SCHOOL = "Throws `IllegalArgumentException` if school is out of its range";

    private SignBounds() {
    }

    static void all(Bounds b) {
        newObject(b);
        ranges(b);
        basesOfShapes(b);
        baseOutside(b);
        withoutBase(b);
        thirty(b);
        justSo(b);
        orderOfSign(b);
        nearestCounts(b);
        nearestFirst(b);
        nearestRefused(b);
        writtenBounds(b);
        writtenWays(b);
        writtenRefused(b);
        losesCounts(b);
        losesRefused(b);
    }

    private static long sign(HandArchive x, int[] a) {
        return x.sign(a[0], a[1], a[2], a[3], a[4], a[5], a[6]);
    }

    private static int[] with(int[] row, int place, int value) {
        int[] changed = row.clone();
        changed[place] = value;
        return changed;
    }

    private static void newObject(Bounds b) {
        b.says(1, "No signs, items, rules and clips");
        b.noSuch(States::none, "written, no sign", x -> x.written(0, 0));
        b.noSuch(States::none, "signed, no item", x -> x.signed(0, 0));
        b.noSuch(States::none, "except, no rule and no sign", x -> x.except(0, 0) ? 1 : 0);
        b.noSuch(States::none, "persons, no clip", x -> x.persons(0));
        HandArchive x = States.none();
        b.due("loses", x.loses(0, 1), 0);
        b.due("clear", x.clear(), 0);
        b.due("rule", x.rule(0), 0);
        b.noSuch(() -> {
            HandArchive y = States.none();
            y.rule(0);
            return y;
        }, "except, no sign", y -> y.except(0, 0) ? 1 : 0);
        b.due("sign", x.sign(0, 0, 0, 0, 0, 0, 0), 0);
        b.due("item", x.item(HandArchive.SIGN, 0, 0, 0), 1);
        b.due("face", x.face(0, 0, 0), 1);
        b.due("take", x.take(0), 0);
        b.names(Bounds.TERMS, "The constants: `NONE = -1`: None");
        b.due("NONE", NONE, -1);
    }

    private static void ranges(Bounds b) {
        for (int i = 0; i < BOUNDS.length; i++) {
            int place = i;
            b.says(2, RANGES[i], SIGN_ARGUMENTS);
            for (int outside : Bounds.outside(BOUNDS[i])) {
                b.badArgument(States::threeSigns, "sign with " + outside, x -> sign(x, with(TOLD, place, outside)));
            }
            HandArchive x = States.none();
            for (int value = 0; value < BOUNDS[i]; value++) {
                b.due("sign with " + value, sign(x, with(TOLD, i, value)), value);
            }
        }
        b.says(Bounds.TERMS, "Hands have shapes 0 to 7, of which 0 to 3 are plain, places 0 to 8, in three rows of "
                + "three, and turns 0 to 3");
        HandArchive x = States.none();
        b.due("all the least", x.sign(0, 0, 0, 0, 0, 0, 0), 0);
        b.due("all the most", x.sign(7, 8, 8, 3, 3, 2, 7), 1);
        for (int shape = 0; shape < 8; shape++) {
            b.due("shape " + shape, x.sign(shape, 4, 4, 0, 0, 0, 0), 2 + shape);
            b.due("shape " + shape + " is plain", x.written(2 + shape, 2), shape <= 3 ? 13 : 4);
        }
    }

    private static void basesOfShapes(Bounds b) {
        b.says(2, "`base`: the shape of the base, 0 to 7", SIGN_ARGUMENTS);
        b.says(Bounds.TERMS, "A sign has a shape, a place from which and a place to which it goes, a turn with which it "
                + "begins and one with which it ends, and a second hand: 0 none, 1 mirrored, 2 a base, which has a "
                + "shape of its own: that of the sign, or a plain one");
        for (int shape = 0; shape < 8; shape++) {
            HandArchive x = States.none();
            int told = 0;
            for (int base = 0; base < 8; base++) {
                int[] a = {shape, 0, 0, 0, 0, 2, base};
                if (base <= 3 || base == shape) {
                    b.due("base " + base + " of the shape " + shape, sign(x, a), told++);
                } else {
                    b.badArgument(States::none, "base " + base + " of the shape " + shape, y -> sign(y, a));
                }
            }
        }
    }

    private static void baseOutside(Bounds b) {
        b.says(2, "`base`: the shape of the base, 0 to 7", SIGN_ARGUMENTS);
        for (int outside : Bounds.outside(8)) {
            b.badArgument(States::threeSigns, "base " + outside, x -> x.sign(5, 0, 0, 0, 0, 2, outside));
            // Not even if the shape is just that.
            b.badArgument(States::threeSigns, "base and shape " + outside,
                    x -> x.sign(outside, 0, 0, 0, 0, 2, outside));
        }
    }

    private static void withoutBase(Bounds b) {
        b.says(2, "it does not matter without one");
        for (int second = 0; second < 2; second++) {
            int[] told = {1, 0, 0, 0, 0, second, 0};
            for (int base : new int[] {0, 3, 4, 7, -1, 8, Integer.MIN_VALUE, Integer.MAX_VALUE}) {
                HandArchive x = States.none();
                b.due("second " + second + ", base " + base, sign(x, with(told, 6, base)), 0);
                b.throwsJust(IllegalStateException.class, "just so, whatever the base was",
                        () -> sign(x, told));
                x.item(HandArchive.SIGN, 0, 0, 0);
                b.due("is read back, base " + base, x.readBack(0, 2), 1);
            }
            b.badState(() -> {
                HandArchive x = States.none();
                sign(x, told);
                return x;
            }, "just so, but for a base that does not matter", x -> sign(x, with(told, 6, 7)));
        }
    }

    private static void thirty(Bounds b) {
        b.says(2, "Tells a sign", "Returns its number", SIGN_STATES);
        b.says(Bounds.TERMS, "Signs are numbered from 0, at most 30");
        HandArchive x = States.none();
        for (int i = 0; i < 30; i++) {
            b.due("sign", x.sign(i % 8, i / 8, 0, 0, 0, 0, 0), i);
        }
        b.throwsJust(IllegalStateException.class, "the 31st", () -> x.sign(7, 7, 0, 0, 0, 0, 0));
        b.due("the last one is there", x.written(29, 0), 81 * 5 + 9 * 3);
        b.throwsJust(IndexOutOfBoundsException.class, "none is behind it", () -> x.written(30, 0));
        b.badState(States::thirtySigns, "the 31st", y -> y.sign(7, 8, 8, 3, 3, 0, 0));
        b.badState(States::thirtySigns, "one that is there, of 30", y -> y.sign(0, 0, 0, 0, 0, 0, 0));
    }

    private static void justSo(Bounds b) {
        b.says(Bounds.TERMS, "no two have all of these alike");
        b.says(2, SIGN_STATES);
        HandArchive x = States.none();
        b.due("the first", sign(x, TOLD), 0);
        for (int i = 0; i < 6; i++) {
            int[] unlike = with(TOLD, i, UNLIKE[i]);
            b.due("unlike in one: " + i, sign(x, unlike), 1 + i);
            b.badState(() -> {
                HandArchive y = States.none();
                sign(y, TOLD);
                sign(y, unlike);
                return y;
            }, "just so: " + i, y -> sign(y, unlike));
        }
        b.due("a base", x.sign(5, 4, 3, 2, 1, 2, 5), 7);
        b.due("unlike in the base alone", x.sign(5, 4, 3, 2, 1, 2, 3), 8);
        b.badState(States::threeSigns, "just so, with a base", y -> y.sign(6, 0, 8, 0, 0, 2, 1));
        b.badState(States::threeSigns, "just so, the last one", y -> y.sign(2, 3, 3, 1, 3, 1, 0));
        b.due("a refused one takes no number", x.sign(0, 0, 0, 0, 0, 0, 0), 9);
    }

    private static void orderOfSign(Bounds b) {
        b.says(Bounds.TERMS, Bounds.FIRST_LISTED);
        b.says(2, SIGN_ARGUMENTS, SIGN_STATES);
        for (int i = 0; i < BOUNDS.length; i++) {
            int[] wrong = with(TOLD, i, BOUNDS[i]);
            b.badArgument(States::thirtySigns, "of 30, out of its range: " + i, x -> sign(x, wrong));
        }
        b.badArgument(States::thirtySigns, "of 30, base not possible", x -> x.sign(5, 4, 3, 2, 1, 2, 6));
    }

    private static void nearestCounts(Bounds b) {
        b.says(3, "Returns the first sign that is nearest to a sign: that in the fewest of shape, from, to, begin, end "
                + "and second it is unlike", "`what`: 0 the other sign, 1 in how many it is unlike", "Returns as told");
        int[] told = TOLD.clone();
        for (int unlike = 0; unlike <= 6; unlike++) {
            int[] other = told.clone();
            System.arraycopy(UNLIKE, 0, other, 0, unlike);
            if (unlike > 0) {
                HandArchive x = States.none();
                sign(x, told);
                sign(x, other);
                b.due("unlike in the first " + unlike, x.nearest(0, 1), unlike);
                b.due("and the other way", x.nearest(1, 1), unlike);
            }
        }
        for (int i = 0; i < 6; i++) {
            HandArchive x = States.none();
            sign(x, told);
            sign(x, with(told, i, UNLIKE[i]));
            b.due("unlike in one alone: " + i, x.nearest(0, 1), 1);
        }
        HandArchive x = States.none();
        x.sign(5, 0, 0, 0, 0, 2, 5);
        x.sign(5, 0, 0, 0, 0, 2, 3);
        b.due("the base is none of these", x.nearest(0, 1), 0);
        b.due("the other sign, not itself", x.nearest(0, 0), 1);
        b.due("the other sign, not itself", x.nearest(1, 0), 0);
    }

    private static void nearestFirst(Bounds b) {
        b.says(3, "Returns the first sign that is nearest to a sign: that in the fewest of shape, from, to, begin, end "
                + "and second it is unlike", "NONE if there is no other sign", "`sign`: its number");
        HandArchive x = States.none();
        sign(x, TOLD);
        b.due("the only one", x.nearest(0, 0), NONE);
        b.due("the only one, in how many", x.nearest(0, 1), NONE);
        sign(x, UNLIKE);
        b.due("of two, unlike in all", x.nearest(0, 0), 1);
        sign(x, with(UNLIKE, 2, 3));
        sign(x, with(UNLIKE, 3, 2));
        b.due("the first of two as near", x.nearest(0, 0), 2);
        b.due("in how many", x.nearest(0, 1), 5);
        b.due("the first of two as near, ahead of the last", x.nearest(1, 0), 2);
        sign(x, with(TOLD, 0, 0));
        b.due("a nearer one, the last", x.nearest(0, 0), 4);
        b.due("of the last one, the first", x.nearest(4, 0), 0);
        HandArchive full = States.thirtySigns();
        b.due("of the last of 30", full.nearest(29, 1) >= 1, true);
        b.due("which is another one", full.nearest(29, 0) < 29, true);
    }

    private static void nearestRefused(Bounds b) {
        b.says(3, NO_SIGN, "`sign`: its number");
        for (int outside : Bounds.outside(3)) {
            b.noSuch(States::threeSigns, "nearest of " + outside, x -> x.nearest(outside, 0));
        }
        b.noSuch(States::thirtySigns, "nearest of 30", x -> x.nearest(30, 0));
        b.noSuch(States::none, "nearest of none", x -> x.nearest(0, 0));
        b.says(3, NO_WHAT, "`what`: 0 the other sign, 1 in how many it is unlike");
        for (int outside : Bounds.outside(2)) {
            b.badArgument(States::threeSigns, "what " + outside, x -> x.nearest(0, outside));
        }
        b.says(Bounds.TERMS, Bounds.FIRST_LISTED);
        b.says(3, NO_SIGN, NO_WHAT);
        b.noSuch(States::threeSigns, "neither a sign nor a what", x -> x.nearest(3, 2));
        b.noSuch(States::none, "neither, below", x -> x.nearest(-1, -1));
    }

    private static void writtenBounds(Bounds b) {
        HandArchive x = States.none();
        x.sign(0, 0, 0, 0, 0, 0, 0);
        x.sign(7, 8, 8, 3, 3, 2, 7);
        x.sign(4, 8, 0, 0, 0, 0, 0);
        x.sign(3, 0, 8, 0, 0, 1, 0);
        b.says(4, "Writes a sign as a school does", "Returns the number", "`sign`: its number");
        b.says(Bounds.TERMS, "A school writes a sign as a number: the school 0: 81 times the shape, 9 times the place "
                + "from which and that to which it goes, together");
        b.due("the least", x.written(0, 0), 0);
        b.due("the most", x.written(1, 0), 647);
        b.due("from 8 to 0", x.written(2, 0), 396);
        b.due("from 0 to 8", x.written(3, 0), 251);
        b.says(Bounds.TERMS, "The school 1: 48 times the shape, 12 times the turn at the beginning, 3 times that at the "
                + "end, and the second hand, together");
        b.due("the least", x.written(0, 1), 0);
        b.due("the most", x.written(1, 1), 383);
        b.due("mirrored", x.written(3, 1), 145);
        x.sign(0, 0, 0, 0, 3, 0, 0);
        x.sign(0, 0, 0, 1, 0, 0, 0);
        b.due("the last turn at the end", x.written(4, 1), 9);
        b.due("a turn at the beginning", x.written(5, 1), 12);
        b.says(Bounds.TERMS, "The school 2: 9 if the shape is plain, and 3 times how it goes by rows (0 up, 1 not, 2 "
                + "down), and how by columns (0 to the left, 1 not, 2 to the right), together");
        b.due("the least", x.written(2, 2), 0);
        b.due("the most", x.written(3, 2), 17);
        b.due("plain, not going", x.written(0, 2), 13);
        b.due("not plain, not going", x.written(1, 2), 4);
    }

    private static void writtenWays(Bounds b) {
        b.says(Bounds.TERMS, "The school 2: 9 if the shape is plain, and 3 times how it goes by rows (0 up, 1 not, 2 "
                + "down), and how by columns (0 to the left, 1 not, 2 to the right), together");
        for (int from = 0; from < 9; from++) {
            HandArchive x = States.none();
            for (int to = 0; to < 9; to++) {
                x.sign(4, from, to, 0, 0, 0, 0);
                // As -1, 0 or 1: up, not and down, to the left, not and to the right.
                int byRows = Integer.compare(to / 3, from / 3);
                int byColumns = Integer.compare(to % 3, from % 3);
                b.due("from " + from + " to " + to, x.written(to, 2), 3 * (byRows + 1) + byColumns + 1);
            }
        }
        HandArchive x = States.none();
        x.sign(4, 2, 3, 0, 0, 0, 0);
        x.sign(4, 3, 2, 0, 0, 0, 0);
        b.due("from the end of a row to the beginning of the next one", x.written(0, 2), 6);
        b.due("and back", x.written(1, 2), 2);
    }

    private static void writtenRefused(Bounds b) {
        b.says(4, NO_SIGN, "`sign`: its number");
        for (int outside : Bounds.outside(3)) {
            b.noSuch(States::threeSigns, "written " + outside, x -> x.written(outside, 0));
        }
        b.noSuch(States::thirtySigns, "written 30", x -> x.written(30, 0));
        b.says(4, NO_SCHOOL, "`school`: 0 to 2");
        for (int outside : Bounds.outside(3)) {
            b.badArgument(States::threeSigns, "school " + outside, x -> x.written(0, outside));
        }
        b.says(Bounds.TERMS, Bounds.FIRST_LISTED);
        b.says(4, NO_SIGN, NO_SCHOOL);
        b.noSuch(States::threeSigns, "neither a sign nor a school", x -> x.written(3, 3));
        b.noSuch(States::none, "neither, below", x -> x.written(-1, -1));
    }

    private static void losesCounts(Bounds b) {
        b.says(5, "Returns how many pairs of signs a school tells apart, and another one does not",
                "`school`: 0 to 2", "`other`: 0 to 2", "Returns the pairs");
        HandArchive x = States.none();
        for (int pair = 0; pair < 9; pair++) {
            b.due("of no signs", x.loses(pair / 3, pair % 3), 0);
        }
        x.sign(0, 0, 0, 0, 0, 0, 0);
        for (int pair = 0; pair < 9; pair++) {
            b.due("of one sign", x.loses(pair / 3, pair % 3), 0);
        }
        x.sign(0, 1, 1, 0, 0, 0, 0);
        b.due("one pair, once", x.loses(0, 1), 1);
        b.due("not the other way round", x.loses(1, 0), 0);
        HandArchive full = States.none();
        for (int i = 0; i < 30; i++) {
            full.sign(0, i / 9, i % 9, 0, 0, 0, 0);
        }
        b.due("all pairs of 30", full.loses(0, 1), 435);
        b.due("none of 30", full.loses(1, 0), 0);
        for (int school = 0; school < 3; school++) {
            b.due("a school tells apart what it tells apart", full.loses(school, school), 0);
        }
        HandArchive bases = States.none();
        bases.sign(5, 0, 8, 0, 0, 2, 5);
        bases.sign(5, 0, 8, 0, 0, 2, 3);
        for (int pair = 0; pair < 9; pair++) {
            b.due("none tells bases apart", bases.loses(pair / 3, pair % 3), 0);
        }
    }

    private static void losesRefused(Bounds b) {
        b.says(5, "Throws `IllegalArgumentException` if school or other is out of its range",
                "`school`: 0 to 2", "`other`: 0 to 2");
        for (int outside : Bounds.outside(3)) {
            b.badArgument(States::threeSigns, "school " + outside, x -> x.loses(outside, 0));
            b.badArgument(States::threeSigns, "other " + outside, x -> x.loses(0, outside));
            b.badArgument(States::none, "both " + outside, x -> x.loses(outside, outside));
        }
    }
}
