/** Promises 16 to 20: take, make, allow, withdraw, persons. */
public final class ClipsTest {
    private static final int NONE = HandArchive.NONE;
    private static final Check CHECK = new Check();

    public static void main(String[] args) {
        takeAndMake();
        fullOfClips();
        wrongMakes();
        allow();
        goneWithAllMadeOfIt();
        withdraw();
        wrongPersons();
        CHECK.end();
    }

    private static void takeAndMake() {
        HandArchive x = new HandArchive();
        for (int person = 0; person < 6; person++) {
            CHECK.due("take", x.take(person), person);
            CHECK.due("persons", x.persons(person), 1 << person);
        }
        CHECK.due("take again", x.take(0), 6);
        CHECK.due("of one", x.make(0, 5, NONE), 7);
        CHECK.due("of one, persons", x.persons(7), 32);
        CHECK.due("of two", x.make(2, 0, 7), 8);
        CHECK.due("of two, persons", x.persons(8), 33);
        CHECK.due("of the same one", x.make(1, 8, 8), 9);
        CHECK.due("of the same one, persons", x.persons(9), 33);
        CHECK.due("of what is made", x.make(1, 9, 1), 10);
        CHECK.due("of what is made, persons", x.persons(10), 35);
        CHECK.noSuch("no such clip", () -> x.persons(11));
        CHECK.noSuch("below", () -> x.persons(-1));
        CHECK.noSuch("no such person", () -> x.take(6));
        CHECK.noSuch("person below", () -> x.take(-1));
        CHECK.due("none was taken", x.take(1), 11);
    }

    private static void fullOfClips() {
        HandArchive x = new HandArchive();
        for (int i = 0; i < 23; i++) {
            CHECK.due("take", x.take(0), i);
        }
        CHECK.due("gone", x.withdraw(0), 23);
        CHECK.due("numbers are not given again", x.take(1), 23);
        CHECK.badState("take: there were 24", () -> x.take(1));
        CHECK.badState("make: there were 24", () -> x.make(0, 23, NONE));
        CHECK.noSuch("persons are looked at first", () -> x.take(6));
        CHECK.noSuch("clips are looked at first", () -> x.make(0, 0, NONE));
        CHECK.badArgument("purposes are looked at first", () -> x.make(3, 23, NONE));
        CHECK.due("persons of what is gone", x.persons(22), 0);
        CHECK.due("persons", x.persons(23), 2);
    }

    private static void wrongMakes() {
        HandArchive x = new HandArchive();
        CHECK.noSuch("no clip", () -> x.make(0, 0, NONE));
        x.take(0);
        x.take(1);
        CHECK.noSuch("clip below", () -> x.make(0, -1, NONE));
        CHECK.noSuch("clip above", () -> x.make(0, 2, NONE));
        CHECK.noSuch("other above", () -> x.make(0, 0, 2));
        CHECK.noSuch("other below", () -> x.make(0, 0, -2));
        CHECK.noSuch("clips are looked at first", () -> x.make(3, 0, 2));
        CHECK.badArgument("purpose above", () -> x.make(3, 0, NONE));
        CHECK.badArgument("purpose below", () -> x.make(-1, 0, NONE));
        x.allow(1, 2, false);
        CHECK.badState("not allowed", () -> x.make(2, 1, NONE));
        CHECK.badState("not allowed by that of the other one", () -> x.make(2, 0, 1));
        CHECK.due("another person", x.make(2, 0, NONE), 2);
        CHECK.due("another purpose", x.make(1, 0, 1), 3);
        CHECK.badState("not allowed, by others", () -> x.make(2, 3, NONE));
        x.withdraw(0);
        CHECK.noSuch("gone", () -> x.make(0, 0, NONE));
        CHECK.noSuch("the other one is gone", () -> x.make(0, 1, 0));
        CHECK.due("none was made", x.make(0, 1, 1), 4);
    }

    private static void allow() {
        HandArchive x = new HandArchive();
        x.take(0);
        x.take(1);
        x.make(1, 0, 1);
        x.make(1, 1, NONE);
        x.make(0, 0, NONE);
        CHECK.due("allowed already", x.allow(0, 1, true), 0);
        CHECK.due("another purpose", x.allow(0, 2, false), 0);
        CHECK.due("only what comes from the person", x.allow(0, 1, false), 1);
        CHECK.due("gone", x.persons(2), 0);
        CHECK.due("of another person", x.persons(3), 2);
        CHECK.due("for another purpose", x.persons(4), 1);
        CHECK.due("what is taken stays", x.persons(0), 1);
        CHECK.due("not once more", x.allow(0, 1, false), 0);
        CHECK.badState("not allowed", () -> x.make(1, 0, 1));
        CHECK.due("allowed again", x.allow(0, 1, true), 0);
        CHECK.due("gone all the same", x.persons(2), 0);
        CHECK.due("can be made again", x.make(1, 0, 1), 5);
        CHECK.badState("the other purpose is not", () -> x.make(2, 0, NONE));
        CHECK.noSuch("person above", () -> x.allow(6, 0, true));
        CHECK.noSuch("person below", () -> x.allow(-1, 0, false));
        CHECK.noSuch("the person is looked at first", () -> x.allow(6, 3, false));
        CHECK.badArgument("purpose above", () -> x.allow(0, 3, true));
        CHECK.badArgument("purpose below", () -> x.allow(0, -1, false));
    }

    private static void goneWithAllMadeOfIt() {
        HandArchive x = new HandArchive();
        x.take(0);
        x.take(1);
        x.make(1, 0, NONE);
        x.make(0, 2, 1);
        x.make(2, 1, 3);
        x.make(0, 4, NONE);
        x.make(0, 0, 1);
        CHECK.due("with all that was made of it", x.allow(0, 1, false), 4);
        int[] persons = {1, 2, 0, 0, 0, 0, 3};
        for (int i = 0; i < persons.length; i++) {
            CHECK.due("persons of " + i, x.persons(i), persons[i]);
        }
        CHECK.due("the rest", x.withdraw(0), 2);
        CHECK.due("nothing is left of the person", x.withdraw(0), 0);
    }

    private static void withdraw() {
        HandArchive x = new HandArchive();
        CHECK.due("of nothing", x.withdraw(5), 0);
        x.take(5);
        x.take(4);
        x.make(0, 0, 1);
        x.make(1, 1, NONE);
        x.make(2, 3, 2);
        CHECK.due("all that come from the person", x.withdraw(5), 3);
        int[] persons = {0, 16, 0, 16, 0};
        for (int i = 0; i < persons.length; i++) {
            CHECK.due("persons of " + i, x.persons(i), persons[i]);
        }
        CHECK.due("may be taken again", x.take(5), 5);
        CHECK.due("purposes are as they were", x.make(0, 5, 1), 6);
        x.allow(5, 1, false);
        CHECK.due("and again", x.withdraw(5), 2);
        x.take(5);
        CHECK.badState("what is not allowed stays so", () -> x.make(1, 7, NONE));
    }

    private static void wrongPersons() {
        HandArchive x = new HandArchive();
        CHECK.noSuch("withdraw above", () -> x.withdraw(6));
        CHECK.noSuch("withdraw below", () -> x.withdraw(-1));
        CHECK.noSuch("withdraw far above", () -> x.withdraw(32));
    }
}
