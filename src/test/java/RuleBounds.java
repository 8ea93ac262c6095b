/** Promises 11 and 12 at their bounds, and what rules of each kind do at the ends of a row. */
final class RuleBounds {
    private static final int SIGN = HandArchive.SIGN, SET = HandArchive.SET, POINT = HandArchive.POINT;
    private static final int RELEASE = HandArchive.RELEASE, VERB = HandArchive.VERB, LETTER = HandArchive.LETTER;
    private static final int DROP = 0, LIKEN = 1, TURN = 2, SWAP = 3, SLIDE = 4;
    private static final int SHAPE = 0, FROM = 1, TO = 2, BEGIN = 3, END = 4, SECOND = 5;
    private static final String KINDS = "@throws IllegalArgumentException if kind is out of its range";
    private static final String SIX = "@throws IllegalStateException if there are 6";
    private static final String AT_MOST = "The rules are at most 6, in the order in which they are told, each of a "
            + "kind, each with exceptions, which are signs";
    private static final String CHANGES = "They change hands of items, one rule behind the other, each from the first "
            + "item to the last one, by what items are by then";
    private static final String EXCEPTED = "A SIGN or VERB of a sign that is an exception is not changed";
    private static final String DROPS = "DROP 0: a second hand that is mirrored goes, if the items directly ahead and "
            + "behind, as far as there are, have none";
    private static final String TURNS = "TURN 2: if the turn with which an item ends and that with which the next one "
            + "begins differ by 2, the next one begins with the one with which the first one ends";
    private static final String SWAPS = "SWAP 3: a SIGN that goes from a place to another one begins at the place where "
            + "it ended, and ends at that where it began (its turns stay), if the place at which the item directly "
            + "ahead ends is nearer to that to which it goes than to that from which it comes";
    private static final String SLIDES = "SLIDE 4: a LETTER that is the same one as the LETTER directly ahead of it, "
            + "goes from the place 4 to the place 5 (the one at the right of it)";

    private RuleBounds() {
    }

    static void all(Bounds b) {
        kinds(b);
        six(b);
        excepts(b);
        exceptRefused(b);
        excepted(b);
        rulesInTheirOrder(b);
        eachOfItsKind(b);
        byWhatStandsNow(b);
        drops(b);
        likens(b);
        turns(b);
        swaps(b);
        swapsByThen(b);
        slides(b);
    }

    private static HandArchive ruledBy(int... kinds) {
        HandArchive x = States.none();
        for (int kind : kinds) {
            x.rule(kind);
        }
        return x;
    }

    private static void signs(HandArchive x, int... signs) {
        for (int sign : signs) {
            x.item(SIGN, sign, 0, 0);
        }
    }

    private static void row(Bounds b, HandArchive x, int what, int... due) {
        for (int item = 0; item < due.length; item++) {
            b.due("signed(" + item + ", " + what + ") of " + due.length, x.signed(item, what), due[item]);
        }
    }

    private static void kinds(Bounds b) {
        b.says(11, "Adds a rule", "@param kind 0 to 4", "@return its place", KINDS);
        HandArchive x = States.none();
        for (int kind = 0; kind < 5; kind++) {
            b.due("rule " + kind, x.rule(kind), kind);
        }
        for (int outside : Bounds.outside(5)) {
            b.badArgument(States::none, "rule " + outside, y -> y.rule(outside));
            b.badArgument(States::twoRules, "rule " + outside + " of two", y -> y.rule(outside));
        }
    }

    private static void six(Bounds b) {
        b.says(Bounds.TERMS, AT_MOST);
        b.says(11, "@return its place", SIX);
        HandArchive x = States.none();
        for (int place = 0; place < 6; place++) {
            b.due("all of one kind", x.rule(SLIDE), place);
        }
        for (int kind = 0; kind < 5; kind++) {
            int seventh = kind;
            b.badState(States::sixRules, "the 7th, of the kind " + kind, y -> y.rule(seventh));
        }
        HandArchive y = States.sixRules();
        y.clear();
        b.throwsJust(IllegalStateException.class, "clear leaves rules", () -> y.rule(0));
        b.says(Bounds.TERMS, Bounds.FIRST_LISTED);
        b.says(11, KINDS, SIX);
        for (int outside : Bounds.outside(5)) {
            b.badArgument(States::sixRules, "of 6, rule " + outside, z -> z.rule(outside));
        }
    }

    private static void excepts(Bounds b) {
        b.says(12, "Makes a sign an exception of a rule, or not any more, if it is", "@param rule its place",
                "@param sign the sign", "@return whether it is then");
        HandArchive x = States.thirtySigns();
        for (int place = 0; place < 6; place++) {
            x.rule(DROP);
        }
        for (int sign = 0; sign < 30; sign++) {
            b.due("sign " + sign + " of the last rule", x.except(5, sign), true);
        }
        b.due("of the first rule, still none", x.except(0, 29), true);
        b.due("the first sign, not any more", x.except(5, 0), false);
        b.due("the last sign, not any more", x.except(5, 29), false);
        b.due("the one ahead of it is still", x.except(5, 28), false);
        b.due("and again", x.except(5, 28), true);
        b.due("and again not", x.except(5, 28), false);
        HandArchive y = States.none();
        y.sign(0, 0, 0, 0, 0, 1, 0);
        y.item(SIGN, 0, 0, 0);
        y.rule(DROP);
        int[] second = {1, 0, 1, 0};
        for (int i = 0; i < second.length; i++) {
            b.due("an exception at once, and not any more: " + i, y.except(0, 0), second[i] == 1);
            b.due("an exception is not changed: " + i, y.signed(0, SECOND), second[i]);
        }
    }

    private static void exceptRefused(Bounds b) {
        b.says(12, "@throws IndexOutOfBoundsException if there is no such place or sign", "@param rule its place",
                "@param sign the sign");
        for (int outside : Bounds.outside(2)) {
            b.noSuch(States::twoRules, "rule " + outside, x -> x.except(outside, 0) ? 1 : 0);
        }
        for (int outside : Bounds.outside(3)) {
            b.noSuch(States::twoRules, "sign " + outside, x -> x.except(0, outside) ? 1 : 0);
        }
        b.noSuch(States::sixRules, "place 6", x -> x.except(6, 0) ? 1 : 0);
        b.noSuch(States::threeSigns, "no rules", x -> x.except(0, 0) ? 1 : 0);
        b.noSuch(() -> ruledBy(DROP), "no signs", x -> x.except(0, 0) ? 1 : 0);
        b.noSuch(States::none, "neither", x -> x.except(-1, -1) ? 1 : 0);
    }

    private static void excepted(Bounds b) {
        b.says(Bounds.TERMS, EXCEPTED);
        HandArchive x = ruledBy(TURN, SLIDE, LIKEN);
        x.sign(5, 4, 4, 2, 2, 0, 0);
        x.sign(5, 4, 4, 2, 2, 1, 0);
        for (int rule = 0; rule < 3; rule++) {
            x.except(rule, 0);
        }
        x.item(SET, 0, 0, 0);
        x.item(SET, 1, 1, 0);
        x.item(SIGN, 0, 0, 0);
        x.item(SET, 2, 2, 0);
        x.item(VERB, 0, 0, 1);
        x.item(POINT, 0, 0, 0);
        x.item(VERB, 1, 0, 1);
        x.item(LETTER, 0, 0, 0);
        x.item(LETTER, 0, 0, 0);
        b.due("a SIGN of it", x.signed(2, BEGIN), 2);
        b.due("a VERB of it", x.signed(4, BEGIN), 2);
        b.due("a pointing behind a SIGN of it", x.signed(3, BEGIN), 2);
        b.due("a VERB of another sign", x.signed(6, BEGIN), 0);
        b.due("a pointing at the locus of its number, ahead of it", x.signed(5, SHAPE), 5);
        b.due("the letter of its number", x.signed(7, BEGIN), 2);
        b.due("the letter of its number, again", x.signed(8, TO), 5);
        b.due("not any more", x.except(0, 0), false);
        b.due("the SIGN is changed", x.signed(2, BEGIN), 0);
        b.due("the VERB is changed", x.signed(4, BEGIN), 0);
    }

    private static void rulesInTheirOrder(Bounds b) {
        b.says(Bounds.TERMS, AT_MOST, CHANGES, "The figure signs items, as rules have left them, one after the other");
        // The letter slides to 5 or not yet, when the sign behind it is asked where the nearer end is.
        HandArchive first = ruledBy(SLIDE, SWAP);
        HandArchive last = ruledBy(SWAP, SLIDE);
        HandArchive again = ruledBy(SWAP, SLIDE, SLIDE, SLIDE, SLIDE, SWAP);
        int[] from = {2, 3, 2};
        HandArchive[] all = {first, last, again};
        for (int i = 0; i < all.length; i++) {
            all[i].sign(0, 3, 2, 0, 0, 0, 0);
            all[i].item(LETTER, 0, 0, 0);
            all[i].item(LETTER, 0, 0, 0);
            all[i].item(SIGN, 0, 0, 0);
            b.due("by the rules of " + i, all[i].signed(2, FROM), from[i]);
            b.due("asked again", all[i].signed(2, FROM), from[i]);
        }
        HandArchive none = States.threeSigns();
        signs(none, 2);
        b.due("without rules", none.signed(0, SECOND), 1);
        none.rule(DROP);
        b.due("a rule that is told later", none.signed(0, SECOND), 0);
    }

    /** A row in which each kind of rule has something to change, and nothing else. */
    private static void eachOfItsKind(Bounds b) {
        b.says(Bounds.TERMS, AT_MOST, CHANGES);
        // Each changed place of the row: the item, what of it, and what it is then.
        int[][][] changes = {{{1, SECOND, 0}}, {{0, SHAPE, 6}, {4, SHAPE, 2}}, {{1, BEGIN, 0}},
            {{1, FROM, 3}, {1, TO, 5}}, {{3, TO, 5}}};
        for (int kind = 0; kind < 5; kind++) {
            HandArchive x = ruledBy(kind);
            sayAll(x);
            int[][] due = {{1, 3, 3, 0, 0, 0}, {6, 5, 3, 2, 2, 1}, {1, 4, 4, 1, 1, 0}, {1, 4, 4, 1, 1, 0},
                {1, 3, 3, 0, 0, 0}, {2, 0, 0, 0, 0, 0}};
            for (int[] change : changes[kind]) {
                due[change[0]][change[1]] = change[2];
            }
            for (int what = SHAPE; what <= SECOND; what++) {
                for (int item = 0; item < due.length; item++) {
                    b.due("kind " + kind + ", signed(" + item + ", " + what + ")", x.signed(item, what),
                            due[item][what]);
                }
            }
        }
    }

    private static void sayAll(HandArchive x) {
        x.sign(6, 5, 3, 2, 2, 1, 0);
        x.sign(2, 0, 0, 0, 0, 0, 0);
        x.item(SET, 0, 0, 0);
        x.item(SIGN, 0, 0, 0);
        x.item(LETTER, 9, 0, 0);
        x.item(LETTER, 9, 0, 0);
        x.item(POINT, 0, 0, 0);
        x.item(SIGN, 1, 0, 0);
    }

    /** Nothing that rules did for an earlier answer stays. */
    private static void byWhatStandsNow(Bounds b) {
        b.says(Bounds.TERMS, EXCEPTED, CHANGES);
        HandArchive x = ruledBy(DROP, TURN, SWAP);
        sayAll(x);
        int[] changed = {6, 3, 5, 0, 2, 0};
        int[] told = {6, 5, 3, 2, 2, 1};
        for (int time = 0; time < 4; time++) {
            for (int what = SHAPE; what <= SECOND; what++) {
                b.due("time " + time + ", " + what, x.signed(1, what), time % 2 == 0 ? changed[what] : told[what]);
            }
            for (int rule = 0; rule < 3; rule++) {
                b.due("an exception or not", x.except(rule, 0), time % 2 == 0);
            }
        }
        HandArchive y = ruledBy(LIKEN);
        y.sign(6, 0, 0, 0, 0, 0, 0);
        y.item(SET, 0, 0, 0);
        row(b, y, SHAPE, 1);
        signs(y, 0);
        row(b, y, SHAPE, 6, 6);
        y.clear();
        y.item(SET, 0, 0, 0);
        row(b, y, SHAPE, 1);
    }

    private static void drops(Bounds b) {
        b.says(Bounds.TERMS, DROPS);
        int[][] rows = {{1}, {1, 0}, {0, 1}, {0, 1, 0}, {1, 0, 1}, {1, 1}, {0, 1, 1, 0}, {1, 1, 1}, {2, 1}, {1, 2},
            {0, 1, 2}, {2, 1, 0}, {2}, {2, 2}, {1, 0, 0, 0, 0, 0, 0, 0, 0, 0, 0, 0, 0, 1}};
        int[][] due = {{0}, {0, 0}, {0, 0}, {0, 0, 0}, {0, 0, 0}, {1, 1}, {0, 1, 1, 0}, {1, 1, 1}, {2, 1}, {1, 2},
            {0, 1, 2}, {2, 1, 0}, {2}, {2, 2}, {0, 0, 0, 0, 0, 0, 0, 0, 0, 0, 0, 0, 0, 0}};
        for (int i = 0; i < rows.length; i++) {
            HandArchive x = ruledBy(DROP);
            for (int second = 0; second < 3; second++) {
                x.sign(0, 0, 0, 0, 0, second, 0);
            }
            signs(x, rows[i]);
            row(b, x, SECOND, due[i]);
        }
        HandArchive x = ruledBy(DROP);
        x.sign(0, 0, 0, 0, 0, 1, 0);
        x.item(SET, 0, 0, 0);
        x.item(SIGN, 0, 0, 0);
        x.item(LETTER, 0, 0, 0);
        x.item(SET, 1, 1, 0);
        x.item(VERB, 0, 0, 1);
        row(b, x, SECOND, 0, 0, 0, 0, 0);
        x.except(0, 0);
        row(b, x, SECOND, 0, 1, 0, 0, 1);
    }

    private static void likens(Bounds b) {
        b.says(Bounds.TERMS, "alone it stays");
        HandArchive x = ruledBy(LIKEN);
        x.sign(6, 0, 0, 0, 0, 0, 0);
        x.sign(3, 0, 0, 0, 0, 0, 0);
        x.item(SET, 0, 0, 0);
        row(b, x, SHAPE, 1);
        b.says(Bounds.TERMS, "of the last item the one directly ahead");
        x.item(POINT, 0, 0, 0);
        row(b, x, SHAPE, 1, 1);
        x.clear();
        signs(x, 0, 1);
        x.item(SET, 0, 0, 0);
        row(b, x, SHAPE, 6, 3, 3);
        x.clear();
        signs(x, 0);
        x.item(SET, 0, 0, 0);
        x.item(RELEASE, 0, 0, 0);
        // The one directly ahead of the last item is like the last one by then.
        row(b, x, SHAPE, 6, 1, 1);
        b.says(Bounds.TERMS, "LIKEN 1: a pointing gets the shape of the item directly behind it", CHANGES);
        x.clear();
        x.item(SET, 0, 0, 0);
        x.item(POINT, 0, 0, 0);
        x.item(RELEASE, 0, 0, 0);
        x.item(LETTER, 7, 0, 0);
        row(b, x, SHAPE, 1, 1, 7, 7);
        x.rule(LIKEN);
        row(b, x, SHAPE, 1, 7, 7, 7);
        x.clear();
        signs(x, 0, 0, 0, 0, 0, 0, 0, 0, 0, 0, 0, 0);
        x.item(SET, 3, 0, 0);
        x.item(SIGN, 1, 0, 0);
        row(b, x, SHAPE, 6, 6, 6, 6, 6, 6, 6, 6, 6, 6, 6, 6, 3, 3);
    }

    private static void turns(Bounds b) {
        b.says(Bounds.TERMS, TURNS);
        for (int ends = 0; ends < 4; ends++) {
            HandArchive x = ruledBy(TURN);
            x.sign(0, 0, 0, 1, ends, 0, 0);
            for (int turns = 0; turns < 16; turns++) {
                int begins = turns / 4;
                x.sign(7, 0, 0, begins, turns % 4, 0, 0);
                x.clear();
                signs(x, 0, 1 + turns);
                // 0 and 3 differ by 3, and not by 1: there is no way round.
                boolean isByTwo = ends - begins == 2 || begins - ends == 2;
                row(b, x, BEGIN, 1, isByTwo ? ends : begins);
                row(b, x, END, ends, turns % 4);
            }
        }
        HandArchive x = ruledBy(TURN);
        x.sign(0, 0, 0, 2, 2, 0, 0);
        x.sign(0, 0, 0, 0, 0, 0, 0);
        signs(x, 0);
        row(b, x, BEGIN, 2);
        signs(x, 1, 0);
        row(b, x, BEGIN, 2, 2, 0);
        row(b, x, END, 2, 0, 2);
        x.item(SET, 0, 0, 0);
        x.item(LETTER, 16, 0, 0);
        row(b, x, BEGIN, 2, 2, 0, 2, 0);
        row(b, x, END, 2, 0, 2, 0, 2);
    }

    private static void swaps(Bounds b) {
        b.says(Bounds.TERMS, SWAPS);
        for (int ahead = 0; ahead < 9; ahead++) {
            for (int from = 0; from < 9; from++) {
                HandArchive x = ruledBy(SWAP);
                x.sign(0, ahead, ahead, 0, 0, 0, 0);
                for (int to = 0; to < 9; to++) {
                    x.sign(7, from, to, 1, 3, 0, 0);
                    x.clear();
                    signs(x, 0, 1 + to);
                    boolean isNearer = apart(ahead, to) < apart(ahead, from);
                    row(b, x, FROM, ahead, isNearer ? to : from);
                    row(b, x, TO, ahead, isNearer ? from : to);
                    row(b, x, BEGIN, 0, 1);
                    row(b, x, END, 0, 3);
                }
            }
        }
        HandArchive x = ruledBy(SWAP);
        x.sign(0, 8, 0, 0, 0, 0, 0);
        signs(x, 0);
        row(b, x, FROM, 8);
        x.clear();
        x.item(SET, 2, 0, 0);
        x.item(SET, 1, 1, 0);
        x.item(POINT, 2, 0, 0);
        x.item(VERB, 0, 1, 2);
        row(b, x, FROM, 0, 5, 0, 5);
        x.clear();
        x.item(SET, 2, 0, 0);
        x.item(SIGN, 0, 0, 0);
        row(b, x, FROM, 0, 0);
    }

    private static int apart(int place, int other) {
        return Math.abs(place / 3 - other / 3) + Math.abs(place % 3 - other % 3);
    }

    private static void swapsByThen(Bounds b) {
        b.says(Bounds.TERMS, SWAPS, CHANGES);
        HandArchive x = ruledBy(SWAP);
        x.sign(0, 4, 5, 0, 0, 0, 0);
        // Each one ends where the next one begins or ends: every other one is swapped, up to the last of 14.
        signs(x, 0, 0, 0, 0, 0, 0, 0, 0, 0, 0, 0, 0, 0, 0);
        row(b, x, FROM, 4, 5, 4, 5, 4, 5, 4, 5, 4, 5, 4, 5, 4, 5);
        x.except(0, 0);
        row(b, x, FROM, 4, 4, 4, 4, 4, 4, 4, 4, 4, 4, 4, 4, 4, 4);
        HandArchive y = ruledBy(SWAP);
        y.sign(0, 0, 8, 0, 0, 0, 0);
        y.sign(0, 5, 8, 0, 0, 0, 0);
        y.sign(0, 6, 2, 0, 0, 0, 0);
        signs(y, 0, 1, 2);
        // Where the one ahead ends, not where it begins: 8, and then 5, once that is swapped.
        row(b, y, FROM, 0, 8, 2);
        row(b, y, TO, 8, 5, 6);
    }

    private static void slides(Bounds b) {
        b.says(Bounds.TERMS, SLIDES);
        for (int letter = 0; letter < 26; letter++) {
            HandArchive x = ruledBy(SLIDE);
            x.item(LETTER, letter, 0, 0);
            row(b, x, TO, 4);
            x.item(LETTER, letter, 0, 0);
            x.item(LETTER, letter, 0, 0);
            row(b, x, FROM, 4, 4, 4);
            row(b, x, TO, 4, 5, 5);
            x.item(LETTER, (letter + 8) % 26, 0, 0);
            x.item(LETTER, letter, 0, 0);
            row(b, x, TO, 4, 5, 5, 4, 4);
        }
        HandArchive x = ruledBy(SLIDE);
        x.sign(1, 4, 4, 1, 1, 0, 0);
        x.item(LETTER, 9, 0, 0);
        x.item(SIGN, 0, 0, 0);
        x.item(LETTER, 9, 0, 0);
        x.item(SET, 0, 0, 0);
        x.item(POINT, 0, 0, 0);
        x.item(LETTER, 9, 0, 0);
        row(b, x, TO, 4, 4, 4, 3, 3, 4);
        HandArchive y = ruledBy(SLIDE);
        y.sign(0, 4, 4, 0, 0, 0, 0);
        y.item(SIGN, 0, 0, 0);
        y.item(LETTER, 0, 0, 0);
        y.item(SET, 1, 0, 0);
        y.item(LETTER, 1, 0, 0);
        // Neither a sign nor a locus of the same number is a letter.
        row(b, y, TO, 4, 4, 5, 4);
        HandArchive full = ruledBy(SLIDE);
        for (int i = 0; i < 14; i++) {
            full.item(LETTER, 25, 0, 0);
        }
        row(b, full, TO, 4, 5, 5, 5, 5, 5, 5, 5, 5, 5, 5, 5, 5, 5);
    }
}
