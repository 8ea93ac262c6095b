/** Promises 16 to 22 at their bounds: clips, persons and purposes, marks, and how coders agree. */
final class ClipBounds {
    private static final int NONE = HandArchive.NONE;
    private static final int PERSONS = 6, PURPOSES = 3;
    private static final String NO_PERSON_TO_TAKE = "@throws IndexOutOfBoundsException if there is no such person";
    private static final String WERE_24 = "@throws IllegalStateException if there were 24";
    private static final String AT_MOST = "Clips are numbered from 0, at most 24";
    private static final String NEVER_AGAIN = "Numbers of clips that are gone are never given again";
    private static final String NO_CLIP_OF_BOTH =
            "Throws `IndexOutOfBoundsException` if there is no such clip, of both, or it is gone";
    private static final String NO_PURPOSE = "Throws `IllegalArgumentException` if purpose is out of its range";
    private static final String NOT_TO_BE_MADE =
            "Throws `IllegalStateException` if there were 24, or a person does not allow it";
    private static final String ALL_ALLOW = "a clip can be made for a purpose, if all persons from whom it comes, "
            + "directly or by others, allow it";
    private static final String NO_MORE = "When a person allows a purpose no more, all clips that were made for it, and "
            + "come from this person, are gone, with all that was made of them";
    private static final String NO_PERSON = "Throws `IndexOutOfBoundsException` if there is no such person";
    private static final String MARKS = "A clip that is there has the tiers 0 to 3 of each of the coders 0 to 2, each "
            + "with marks: from a tick to another one, that not included, 0 to 200, with a value, 0 to 9";
    private static final String NO_TIER = "Throws `IndexOutOfBoundsException` if there is no such clip, coder or tier, "
            + "or the clip is gone";
    private static final String MARK_ARGUMENTS =
            "Throws `IllegalArgumentException` if from, to or value is out of its range";
    private static final String MARK_STATES =
            "Throws `IllegalStateException` if there are 10, or one has a tick in common with it";
    private static final String NO_TIERS = "Throws `IndexOutOfBoundsException` if there is no such clip, coder, of "
            + "both, or tier, or the clip is gone";
    private static final String NO_WHAT = "Throws `IllegalArgumentException` if what is out of its range";
    private static final String AGREE_WHAT = "`what`: 0 at how many ticks both have the same value, 1 at how many one "
            + "of both, or both, have a value, 2 how many marks of the one have, for more than half of their ticks, "
            + "the same value by the other one";

    private ClipBounds() {
    }

    static void all(Bounds b) {
        takes(b);
        makes(b);
        makeRefused(b);
        notAllowed(b);
        orderOfMake(b);
        twentyFour(b);
        allows(b);
        goneByAllow(b);
        allowRefused(b);
        withdraws(b);
        comesFrom(b);
        marks(b);
        marksInCommon(b);
        markRefused(b);
        orderOfMark(b);
        agrees(b);
        moreThanHalf(b);
        agreeRefused(b);
    }

    private static void takes(Bounds b) {
        b.names(Bounds.TERMS, "Clips, coders");
        b.says(Bounds.TERMS, "One that is taken is of a person, 0 to 5", AT_MOST);
        b.says(16, "Takes a clip", "@param person 0 to 5", "@return its number");
        HandArchive x = States.none();
        for (int person = 0; person < PERSONS; person++) {
            b.due("take of " + person, x.take(person), person);
            b.due("is of the person", x.persons(person), 1 << person);
        }
        b.due("the same person again", x.take(0), 6);
        b.says(16, NO_PERSON_TO_TAKE, "@param person 0 to 5");
        for (int outside : outsideOfPersons()) {
            b.noSuch(States::clips, "take of " + outside, y -> y.take(outside));
            b.noSuch(States::none, "take of " + outside + ", the first", y -> y.take(outside));
        }
        b.says(16, WERE_24);
        for (int person = 0; person < PERSONS; person++) {
            int last = person;
            b.badState(States::twentyFourClips, "the 25th, of " + person, y -> y.take(last));
        }
        b.says(Bounds.TERMS, Bounds.FIRST_LISTED);
        b.says(16, NO_PERSON_TO_TAKE, WERE_24);
        for (int outside : outsideOfPersons()) {
            b.noSuch(States::twentyFourClips, "of 24, of " + outside, y -> y.take(outside));
        }
    }

    /** A shift by a number of these would be one by a person. */
    private static int[] outsideOfPersons() {
        return new int[] {-1, 6, 31, 32, 37, 64, -27, -32, Integer.MIN_VALUE, Integer.MAX_VALUE};
    }

    private static void makes(Bounds b) {
        b.says(Bounds.TERMS, "one that is made is made of one or two others, for a purpose, 0 to 2",
                "A person allows purposes, at first all");
        b.says(17, "Makes a clip", "`purpose`: 0 to 2", "`clip`: a clip", "`other`: a clip, also the same one, or NONE",
                "Returns its number");
        for (int purpose = 0; purpose < PURPOSES; purpose++) {
            HandArchive x = States.none();
            for (int person = 0; person < PERSONS; person++) {
                x.take(person);
            }
            b.due("of one", x.make(purpose, 0, NONE), 6);
            b.due("of the same one", x.make(purpose, 5, 5), 7);
            b.due("of two, the first and the last", x.make(purpose, 0, 5), 8);
            b.due("of the last made ones", x.make(purpose, 8, 7), 9);
            for (int person = 1; person < 5; person++) {
                b.due("of one more", x.make(purpose, 8 + person, person), 9 + person);
            }
            b.due("of all persons", x.persons(13), 63);
            b.due("of the first", x.persons(6), 1);
            b.due("of the last", x.persons(7), 32);
            b.due("of both", x.persons(9), 33);
        }
    }

    private static void makeRefused(Bounds b) {
        b.says(17, NO_CLIP_OF_BOTH, "`clip`: a clip", "`other`: a clip, also the same one, or NONE");
        // Clips 2, 5 and 6 of seven are gone.
        for (int wrong : new int[] {-1, -2, 7, 8, 23, 24, 32, Integer.MIN_VALUE, Integer.MAX_VALUE, 2, 5, 6}) {
            b.noSuch(States::clips, "make of " + wrong, x -> x.make(0, wrong, NONE));
            b.noSuch(States::clips, "make of " + wrong + " and 0", x -> x.make(0, wrong, 0));
            b.noSuch(States::clips, "make of it twice", x -> x.make(0, wrong, wrong));
            if (wrong != NONE) {
                b.noSuch(States::clips, "make of 0 and " + wrong, x -> x.make(0, 0, wrong));
            }
        }
        b.noSuch(States::none, "make of no clips", x -> x.make(0, 0, NONE));
        b.noSuch(States::none, "make of NONE", x -> x.make(0, NONE, NONE));
        b.says(17, NO_PURPOSE, "`purpose`: 0 to 2");
        for (int outside : Bounds.outside(PURPOSES)) {
            b.badArgument(States::clips, "make for " + outside, x -> x.make(outside, 0, NONE));
        }
    }

    private static void notAllowed(Bounds b) {
        b.says(Bounds.TERMS, ALL_ALLOW);
        b.says(17, NOT_TO_BE_MADE);
        // Person 1 does not allow the purpose 2; clips 3 and 4 come from this person by others.
        b.badState(States::clips, "directly", x -> x.make(2, 1, NONE));
        b.badState(States::clips, "directly, twice", x -> x.make(2, 1, 1));
        b.badState(States::clips, "the first of two", x -> x.make(2, 1, 0));
        b.badState(States::clips, "the second of two", x -> x.make(2, 0, 1));
        b.badState(States::clips, "by another", x -> x.make(2, 3, NONE));
        b.badState(States::clips, "by another of another", x -> x.make(2, 4, NONE));
        b.badState(States::clips, "by another, the second of two", x -> x.make(2, 0, 4));
        HandArchive x = States.clips();
        b.due("another person", x.make(2, 0, NONE), 7);
        b.due("other purposes", x.make(0, 1, NONE), 8);
        b.due("other purposes, by others", x.make(1, 4, 3), 9);
        b.due("a clip of one who allows none", x.take(5), 10);
        for (int purpose = 0; purpose < PURPOSES; purpose++) {
            int none = purpose;
            b.throwsJust(IllegalStateException.class, "allows none", () -> x.make(none, 10, NONE));
            b.throwsJust(IllegalStateException.class, "with one who does", () -> x.make(none, 0, 10));
        }
    }

    private static void orderOfMake(Bounds b) {
        b.says(Bounds.TERMS, Bounds.FIRST_LISTED);
        b.says(17, NO_CLIP_OF_BOTH, NO_PURPOSE);
        b.noSuch(States::clips, "no such clip for no such purpose", x -> x.make(3, 7, NONE));
        b.noSuch(States::clips, "no such other one for no such purpose", x -> x.make(-1, 0, 7));
        b.noSuch(States::clips, "one that is gone for no such purpose", x -> x.make(3, 2, NONE));
        b.noSuch(States::clips, "another that is gone for no such purpose", x -> x.make(3, 0, 2));
        b.says(17, NO_CLIP_OF_BOTH, NOT_TO_BE_MADE);
        b.noSuch(States::clips, "not allowed, no such other one", x -> x.make(2, 1, 7));
        b.noSuch(States::clips, "not allowed, the other one is gone", x -> x.make(2, 1, 2));
        b.noSuch(States::twentyFourClips, "of 24, no such clip", x -> x.make(0, 24, NONE));
        b.noSuch(States::twentyFourClips, "of 24, no such other one", x -> x.make(0, 0, 24));
        b.noSuch(States::twentyFourClips, "of 24, one that is gone", x -> x.make(0, 22, NONE));
        b.noSuch(States::twentyFourClips, "of 24, the other one is gone", x -> x.make(0, 0, 22));
        b.says(17, NO_PURPOSE, NOT_TO_BE_MADE);
        b.badArgument(States::twentyFourClips, "of 24, no such purpose", x -> x.make(3, 0, NONE));
        b.badArgument(States::twentyFourClips, "of 24, no such purpose, below", x -> x.make(-1, 0, 23));
    }

    private static void twentyFour(Bounds b) {
        b.says(Bounds.TERMS, AT_MOST, NEVER_AGAIN);
        b.says(16, "@return its number", WERE_24);
        b.says(17, "Returns its number", NOT_TO_BE_MADE);
        HandArchive x = States.none();
        for (int clip = 0; clip < 24; clip++) {
            b.due("clip", clip % 2 == 0 ? x.take(0) : x.make(0, clip - 1, NONE), clip);
            if (clip == 11) {
                b.due("all are gone", x.withdraw(0), 12);
            }
        }
        b.throwsJust(IllegalStateException.class, "the 25th taken", () -> x.take(0));
        b.throwsJust(IllegalStateException.class, "the 25th made", () -> x.make(0, 23, NONE));
        b.due("the first of those that are there", x.persons(12), 1);
        b.due("the last of those that are gone", x.persons(11), 0);
        b.badState(States::twentyFourClips, "the 25th made", y -> y.make(0, 0, NONE));
        b.badState(States::twentyFourClips, "the 25th made of two", y -> y.make(0, 0, 23));
        b.badState(States::twentyFourClips, "the 25th, and not allowed", y -> y.make(1, 23, NONE));
        HandArchive y = States.twentyFourClips();
        b.due("all others go also", y.withdraw(0) + y.withdraw(1), 23);
        b.throwsJust(IllegalStateException.class, "there were 24", () -> y.take(0));
    }

    private static void allows(Bounds b) {
        b.says(Bounds.TERMS, "A person allows purposes, at first all", ALL_ALLOW);
        b.says(18, "Lets a person allow a purpose, or not any more", "`person`: 0 to 5", "`purpose`: 0 to 2",
                "`isAllowed`: whether it is", "Returns how many clips are gone by that");
        for (int person = 0; person < PERSONS; person++) {
            for (int purpose = 0; purpose < PURPOSES; purpose++) {
                HandArchive x = States.none();
                x.take(person);
                x.take((person + 1) % PERSONS);
                int own = purpose;
                b.due("as at first", x.allow(person, purpose, true), 0);
                b.due("can be made", x.make(purpose, 0, NONE), 2);
                b.due("still, nothing is gone by that", x.allow(person, purpose, true), 0);
                b.due("what was made is there", x.persons(2), 1 << person);
                b.due("no more", x.allow(person, purpose, false), 1);
                b.throwsJust(IllegalStateException.class, "cannot be made", () -> x.make(own, 0, NONE));
                b.due("by another person", x.make(purpose, 1, NONE), 3);
                b.due("for another purpose", x.make((purpose + 1) % PURPOSES, 0, NONE), 4);
                b.due("for the third purpose", x.make((purpose + 2) % PURPOSES, 0, NONE), 5);
                b.due("once more no more", x.allow(person, purpose, false), 0);
                b.due("again", x.allow(person, purpose, true), 0);
                b.due("what is gone stays so", x.persons(2), 0);
                b.due("can be made again", x.make(purpose, 0, NONE), 6);
            }
        }
    }

    private static void goneByAllow(Bounds b) {
        b.says(Bounds.TERMS, NO_MORE, NEVER_AGAIN);
        b.says(18, "Returns how many clips are gone by that");
        HandArchive x = States.none();
        b.due("of no clips", x.allow(0, 0, false), 0);
        x.allow(0, 0, true);
        x.take(0);
        x.make(0, 0, NONE);
        for (int clip = 2; clip < 24; clip++) {
            // A chain, each of the one ahead of it, for other purposes.
            x.make(1 + clip % 2, clip - 1, NONE);
        }
        b.due("for a purpose of none", x.allow(1, 0, false), 0);
        b.due("all of a chain but the taken one", x.allow(0, 0, false), 23);
        b.due("the taken one is there", x.persons(0), 1);
        b.due("the first of the chain is gone", x.persons(1), 0);
        b.due("the last of the chain is gone", x.persons(23), 0);
        HandArchive y = States.none();
        y.take(0);
        y.take(1);
        y.make(1, 1, NONE);
        y.make(1, 0, 1);
        y.make(2, 1, 3);
        y.make(0, 1, 2);
        b.due("only those that come from the person, and what was made of them", y.allow(0, 1, false), 2);
        int[] persons = {1, 2, 2, 0, 0, 2};
        for (int clip = 0; clip < persons.length; clip++) {
            b.due("persons of " + clip, y.persons(clip), persons[clip]);
        }
        y.make(1, 1, 5);
        b.due("made of two that go, but once, with those made of them", y.allow(1, 1, false), 3);
        b.due("none is left for it", y.allow(1, 1, false), 0);
        b.due("the number behind those that are gone", y.take(0), 7);
        HandArchive z = States.none();
        z.take(0);
        z.take(1);
        z.make(1, 0, NONE);
        z.make(0, 2, 1);
        z.make(0, 1, 2);
        z.make(0, 1, 1);
        b.due("made of one that goes and one that stays, either way", z.allow(0, 1, false), 3);
        b.due("made of one that stays, twice", z.persons(5), 2);
    }

    private static void allowRefused(Bounds b) {
        b.says(18, NO_PERSON, "`person`: 0 to 5");
        for (int outside : outsideOfPersons()) {
            b.noSuch(States::clips, "allow of " + outside, x -> x.allow(outside, 0, true));
            b.noSuch(States::clips, "allow no more of " + outside, x -> x.allow(outside, 0, false));
        }
        b.says(18, NO_PURPOSE, "`purpose`: 0 to 2");
        for (int outside : Bounds.outside(PURPOSES)) {
            b.badArgument(States::clips, "allow " + outside, x -> x.allow(0, outside, true));
            b.badArgument(States::clips, "allow no more " + outside, x -> x.allow(0, outside, false));
        }
        b.says(Bounds.TERMS, Bounds.FIRST_LISTED);
        b.says(18, NO_PERSON, NO_PURPOSE);
        b.noSuch(States::clips, "neither", x -> x.allow(6, 3, false));
        b.noSuch(States::clips, "neither, below", x -> x.allow(-1, -1, true));
    }

    private static void withdraws(Bounds b) {
        b.says(Bounds.TERMS, "when a person withdraws, all that come from this person", NEVER_AGAIN);
        b.says(19, "Lets a person withdraw", "@param person 0 to 5", "@return how many clips are gone by that");
        for (int person = 0; person < PERSONS; person++) {
            b.due("of no clips", States.none().withdraw(person), 0);
            HandArchive x = States.none();
            for (int other = 0; other < PERSONS; other++) {
                x.take(other);
            }
            x.make(0, person, NONE);
            x.make(1, (person + 1) % PERSONS, person);
            x.make(2, (person + 1) % PERSONS, NONE);
            b.due("directly and by others", x.withdraw(person), 3);
            b.due("once more", x.withdraw(person), 0);
            int[] there = {1, 2, 4, 8, 16, 32, 0, 0, 1 << (person + 1) % PERSONS};
            there[person] = 0;
            for (int clip = 0; clip < there.length; clip++) {
                b.due("persons of " + clip, x.persons(clip), there[clip]);
            }
            b.due("may be taken anew", x.take(person), 9);
            b.due("and made of, as is allowed", x.make(0, 9, NONE), 10);
        }
        HandArchive refusing = States.none();
        refusing.take(3);
        refusing.allow(3, 1, false);
        b.due("of one who allows a purpose no more", refusing.withdraw(3), 1);
        refusing.take(3);
        b.throwsJust(IllegalStateException.class, "nor behind that", () -> refusing.make(1, 1, NONE));
        b.due("but the others", refusing.make(2, 1, NONE), 2);
        HandArchive full = States.none();
        for (int clip = 0; clip < 24; clip++) {
            full.take(5);
        }
        b.due("all of 24", full.withdraw(5), 24);
        b.says(19, "@throws IndexOutOfBoundsException if there is no such person");
        for (int outside : outsideOfPersons()) {
            b.noSuch(States::clips, "withdraw of " + outside, x -> x.withdraw(outside));
        }
    }

    private static void comesFrom(Bounds b) {
        b.says(20, "Returns from whom a clip comes", "@param clip its number", "@return bit k for the person k",
                "0 if it is gone");
        HandArchive x = States.clips();
        int[] due = {1, 2, 0, 3, 3, 0, 0};
        for (int clip = 0; clip < due.length; clip++) {
            b.due("persons of " + clip, x.persons(clip), due[clip]);
        }
        HandArchive full = States.twentyFourClips();
        b.due("of the first of 24", full.persons(0), 1);
        b.due("of the last of 24", full.persons(23), 2);
        b.due("of one that is gone", full.persons(22), 0);
        b.says(20, "@throws IndexOutOfBoundsException if there was no such clip");
        for (int outside : Bounds.outside(7)) {
            b.noSuch(States::clips, "persons of " + outside, y -> y.persons(outside));
        }
        b.noSuch(States::none, "persons of none", y -> y.persons(0));
        b.noSuch(States::twentyFourClips, "persons of 24", y -> y.persons(24));
    }

    private static void marks(Bounds b) {
        b.says(Bounds.TERMS, MARKS, "at most 10 there");
        b.says(21, "Adds a mark", "`clip`: the clip", "`coder`: 0 to 2", "`tier`: 0 to 3", "`from`: 0 to 199",
                "`to`: above from, to 200", "`value`: 0 to 9", "Returns how many the tier has then");
        HandArchive x = States.none();
        for (int clip = 0; clip < 2; clip++) {
            x.take(clip);
            for (int tier = 0; tier < 12; tier++) {
                b.due("the first tick", x.mark(clip, tier % 3, tier / 3, 0, 1, 0), 1);
                b.due("the last tick", x.mark(clip, tier % 3, tier / 3, 199, 200, 9), 2);
                b.due("all between them", x.mark(clip, tier % 3, tier / 3, 1, 199, 5), 3);
                b.due("all ticks have a value", x.agree(clip, tier % 3, tier % 3, tier / 3, 1), 200);
            }
        }
        HandArchive all = States.none();
        all.take(0);
        b.due("all ticks at once", all.mark(0, 2, 3, 0, 200, 9), 1);
        b.due("the last value, at all of them", all.agree(0, 2, 2, 3, 0), 200);
        HandArchive ten = States.none();
        ten.take(0);
        for (int value = 0; value < 10; value++) {
            b.due("mark of the value " + value, ten.mark(0, 0, 0, 9 - value, 10 - value, value), value + 1);
        }
        b.says(21, MARK_STATES);
        b.throwsJust(IllegalStateException.class, "the 11th", () -> ten.mark(0, 0, 0, 10, 11, 0));
        b.badState(States::tenMarks, "the 11th", y -> y.mark(0, 1, 2, 10, 11, 0));
        b.badState(States::tenMarks, "the 11th, behind all", y -> y.mark(0, 1, 2, 181, 200, 9));
        HandArchive y = States.tenMarks();
        b.due("another coder has none", y.mark(0, 0, 2, 0, 200, 0), 1);
        b.due("another tier has none", y.mark(0, 1, 3, 0, 200, 0), 1);
    }

    private static void marksInCommon(Bounds b) {
        b.says(Bounds.TERMS, "marks of one tier and coder have no tick in common");
        b.says(21, MARK_STATES);
        int[][] busy = {{50, 60}, {50, 51}, {59, 60}, {55, 56}, {49, 51}, {0, 51}, {59, 61}, {59, 200}, {0, 200},
            {49, 61}, {50, 61}, {49, 60}};
        for (int[] span : busy) {
            b.badState(States::oneMark, "from " + span[0] + " to " + span[1],
                    x -> x.mark(0, 1, 2, span[0], span[1], 5));
            HandArchive x = States.oneMark();
            x.take(0);
            b.due("another coder", x.mark(0, 0, 2, span[0], span[1], 5), 1);
            b.due("another tier", x.mark(0, 1, 1, span[0], span[1], 5), 1);
            b.due("another clip", x.mark(2, 1, 2, span[0], span[1], 5), 1);
        }
        int[][] free = {{0, 50}, {49, 50}, {60, 61}, {60, 200}};
        for (int[] span : free) {
            b.due("next to it, from " + span[0], States.oneMark().mark(0, 1, 2, span[0], span[1], 5), 2);
        }
    }

    private static void markRefused(Bounds b) {
        b.says(21, NO_TIER, "`clip`: the clip", "`coder`: 0 to 2", "`tier`: 0 to 3");
        for (int outside : Bounds.outside(2)) {
            b.noSuch(States::oneMark, "clip " + outside, x -> x.mark(outside, 0, 0, 0, 1, 0));
        }
        b.noSuch(States::oneMark, "a clip that is gone", x -> x.mark(1, 0, 0, 0, 1, 0));
        b.noSuch(States::none, "no clips", x -> x.mark(0, 0, 0, 0, 1, 0));
        for (int outside : Bounds.outside(3)) {
            b.noSuch(States::oneMark, "coder " + outside, x -> x.mark(0, outside, 0, 0, 1, 0));
        }
        for (int outside : Bounds.outside(4)) {
            b.noSuch(States::oneMark, "tier " + outside, x -> x.mark(0, 0, outside, 0, 1, 0));
        }
        b.says(21, MARK_ARGUMENTS, "`from`: 0 to 199", "`to`: above from, to 200", "`value`: 0 to 9");
        for (int outside : Bounds.outside(200)) {
            b.badArgument(States::oneMark, "from " + outside, x -> x.mark(0, 1, 2, outside, 200, 0));
            b.badArgument(States::oneMark, "from " + outside + " to one behind it",
                    x -> x.mark(0, 1, 2, outside, outside + 1, 0));
        }
        for (int outside : Bounds.outside(201)) {
            b.badArgument(States::oneMark, "to " + outside, x -> x.mark(0, 1, 2, 0, outside, 0));
            b.badArgument(States::oneMark, "from the last tick to " + outside, x -> x.mark(0, 1, 2, 199, outside, 0));
        }
        b.badArgument(States::oneMark, "to 0 from 0", x -> x.mark(0, 1, 2, 0, 0, 0));
        b.badArgument(States::oneMark, "to 199 from 199", x -> x.mark(0, 1, 2, 199, 199, 0));
        b.badArgument(States::oneMark, "to the tick ahead", x -> x.mark(0, 1, 2, 100, 99, 0));
        b.badArgument(States::oneMark, "to 0 from the last tick", x -> x.mark(0, 1, 2, 199, 0, 0));
        for (int outside : Bounds.outside(10)) {
            b.badArgument(States::oneMark, "value " + outside, x -> x.mark(0, 1, 2, 0, 1, outside));
        }
    }

    private static void orderOfMark(Bounds b) {
        b.says(Bounds.TERMS, Bounds.FIRST_LISTED);
        b.says(21, NO_TIER, MARK_ARGUMENTS);
        int[][] nowhere = {{2, 1, 2}, {1, 1, 2}, {0, 3, 2}, {0, 1, 4}};
        int[][] wrong = {{-1, 1, 0}, {200, 201, 0}, {5, 5, 0}, {0, 201, 0}, {0, 1, 10}, {0, 1, -1}};
        for (int[] n : nowhere) {
            for (int[] w : wrong) {
                b.noSuch(States::oneMark, "neither a tier nor a mark", x -> x.mark(n[0], n[1], n[2], w[0], w[1], w[2]));
            }
        }
        b.says(21, NO_TIER, MARK_STATES);
        for (int[] n : nowhere) {
            b.noSuch(States::tenMarks, "of 10, no tier", x -> x.mark(n[0], n[1], n[2], 10, 11, 0));
            b.noSuch(States::oneMark, "in common, no tier", x -> x.mark(n[0], n[1], n[2], 50, 60, 0));
        }
        b.says(21, MARK_ARGUMENTS, MARK_STATES);
        for (int[] w : wrong) {
            b.badArgument(States::tenMarks, "of 10, no mark", x -> x.mark(0, 1, 2, w[0], w[1], w[2]));
        }
        b.badArgument(States::oneMark, "in common, to above", x -> x.mark(0, 1, 2, 50, 201, 0));
        b.badArgument(States::oneMark, "in common, from below", x -> x.mark(0, 1, 2, -1, 60, 0));
        b.badArgument(States::oneMark, "in common, no value", x -> x.mark(0, 1, 2, 50, 60, 10));
        b.badArgument(States::oneMark, "within it, empty", x -> x.mark(0, 1, 2, 55, 55, 0));
    }

    private static void agree(Bounds b, HandArchive x, int coder, int other, int... due) {
        for (int what = 0; what < 3; what++) {
            b.due("agree(0, " + coder + ", " + other + ", 3, " + what + ")", x.agree(0, coder, other, 3, what),
                    due[what]);
        }
    }

    private static void agrees(Bounds b) {
        b.says(22, "Tells how two coders agree on a tier of a clip", "`clip`: the clip", "`coder`: 0 to 2",
                "`other`: 0 to 2", "`tier`: 0 to 3", AGREE_WHAT, "Returns as told");
        HandArchive x = States.none();
        x.take(0);
        for (int pair = 0; pair < 9; pair++) {
            agree(b, x, pair / 3, pair % 3, 0, 0, 0);
        }
        x.mark(0, 0, 3, 0, 200, 0);
        agree(b, x, 0, 1, 0, 200, 0);
        agree(b, x, 1, 0, 0, 200, 0);
        agree(b, x, 0, 0, 200, 200, 1);
        agree(b, x, 1, 2, 0, 0, 0);
        x.mark(0, 2, 3, 0, 1, 0);
        x.mark(0, 2, 3, 199, 200, 0);
        x.mark(0, 2, 3, 1, 2, 9);
        agree(b, x, 0, 2, 2, 200, 0);
        agree(b, x, 2, 0, 2, 200, 2);
        x.mark(0, 1, 3, 10, 20, 9);
        agree(b, x, 0, 1, 0, 200, 0);
        agree(b, x, 1, 2, 0, 13, 0);
        agree(b, x, 2, 2, 3, 3, 3);
        HandArchive full = States.none();
        full.take(0);
        for (int coder = 0; coder < 3; coder++) {
            full.mark(0, coder, 3, 0, 200, 9);
        }
        for (int pair = 0; pair < 9; pair++) {
            agree(b, full, pair / 3, pair % 3, 200, 200, 1);
        }
        HandArchive next = States.none();
        next.take(0);
        next.mark(0, 0, 3, 0, 10, 4);
        next.mark(0, 1, 3, 10, 20, 4);
        agree(b, next, 0, 1, 0, 20, 0);
    }

    private static void moreThanHalf(Bounds b) {
        b.says(22, AGREE_WHAT);
        int[] lengths = {1, 1, 2, 2, 3, 3, 199, 199, 200, 200};
        int[] shared = {0, 1, 1, 2, 1, 2, 99, 100, 100, 101};
        int[] due = {0, 1, 0, 1, 0, 1, 0, 1, 0, 1};
        for (int i = 0; i < lengths.length; i++) {
            HandArchive x = States.none();
            x.take(0);
            x.mark(0, 0, 3, 0, lengths[i], 7);
            if (shared[i] > 0) {
                x.mark(0, 1, 3, 0, shared[i], 7);
            }
            b.due(shared[i] + " of " + lengths[i], x.agree(0, 0, 1, 3, 2), due[i]);
        }
        HandArchive x = States.none();
        x.take(0);
        x.mark(0, 0, 3, 100, 104, 7);
        x.mark(0, 1, 3, 90, 101, 7);
        x.mark(0, 1, 3, 101, 102, 6);
        x.mark(0, 1, 3, 103, 110, 7);
        b.due("2 of 4 by two marks, and another value", x.agree(0, 0, 1, 3, 2), 0);
        x.mark(0, 1, 3, 102, 103, 7);
        b.due("3 of 4 by three marks", x.agree(0, 0, 1, 3, 2), 1);
        HandArchive ten = States.none();
        ten.take(0);
        ten.mark(0, 1, 3, 0, 200, 1);
        for (int mark = 0; mark < 10; mark++) {
            ten.mark(0, 0, 3, mark, mark + 1, 1);
        }
        b.due("all of ten", ten.agree(0, 0, 1, 3, 2), 10);
        b.due("but not the long one", ten.agree(0, 1, 0, 3, 2), 0);
    }

    private static void agreeRefused(Bounds b) {
        b.says(22, NO_TIERS, "`clip`: the clip", "`coder`: 0 to 2", "`other`: 0 to 2", "`tier`: 0 to 3");
        for (int outside : Bounds.outside(2)) {
            b.noSuch(States::oneMark, "clip " + outside, x -> x.agree(outside, 0, 1, 2, 0));
        }
        b.noSuch(States::oneMark, "a clip that is gone", x -> x.agree(1, 0, 1, 2, 0));
        b.noSuch(States::none, "no clips", x -> x.agree(0, 0, 1, 2, 0));
        for (int outside : Bounds.outside(3)) {
            b.noSuch(States::oneMark, "coder " + outside, x -> x.agree(0, outside, 1, 2, 0));
            b.noSuch(States::oneMark, "other " + outside, x -> x.agree(0, 0, outside, 2, 0));
        }
        for (int outside : Bounds.outside(4)) {
            b.noSuch(States::oneMark, "tier " + outside, x -> x.agree(0, 0, 1, outside, 0));
        }
        b.says(22, NO_WHAT, AGREE_WHAT);
        for (int outside : Bounds.outside(3)) {
            b.badArgument(States::oneMark, "what " + outside, x -> x.agree(0, 0, 1, 2, outside));
        }
        b.says(Bounds.TERMS, Bounds.FIRST_LISTED);
        b.says(22, NO_TIERS, NO_WHAT);
        int[][] nowhere = {{2, 0, 1, 2}, {1, 0, 1, 2}, {0, 3, 1, 2}, {0, 0, 3, 2}, {0, 0, 1, 4}};
        for (int[] n : nowhere) {
            b.noSuch(States::oneMark, "neither a tier nor a what", x -> x.agree(n[0], n[1], n[2], n[3], 3));
            b.noSuch(States::oneMark, "neither, below", x -> x.agree(n[0], n[1], n[2], n[3], -1));
        }
    }
}
