/** Promises 21 and 22: mark and agree. */
public final class CodersTest {
    private static final int NONE = HandArchive.NONE;
    private static final Check CHECK = new Check();

    public static void main(String[] args) {
        marks();
        fullOfMarks();
        wrongMarks();
        agree();
        moreThanHalf();
        wrongAgrees();
        CHECK.end();
    }

    private static void marks() {
        HandArchive x = new HandArchive();
        x.take(0);
        x.make(0, 0, NONE);
        CHECK.due("all ticks", x.mark(0, 0, 0, 0, 200, 9), 1);
        CHECK.due("another tier", x.mark(0, 0, 3, 0, 200, 0), 1);
        CHECK.due("another coder", x.mark(0, 2, 0, 199, 200, 0), 1);
        CHECK.due("another clip", x.mark(1, 0, 0, 10, 20, 0), 1);
        CHECK.due("directly behind", x.mark(1, 0, 0, 20, 21, 0), 2);
        CHECK.due("directly ahead", x.mark(1, 0, 0, 9, 10, 0), 3);
        CHECK.badState("the last tick", () -> x.mark(1, 0, 0, 20, 30, 1));
        CHECK.badState("the first tick", () -> x.mark(1, 0, 0, 0, 10, 1));
        CHECK.badState("within", () -> x.mark(1, 0, 0, 12, 13, 1));
        CHECK.badState("around", () -> x.mark(1, 0, 0, 0, 200, 1));
        CHECK.badState("just so", () -> x.mark(1, 0, 0, 10, 20, 0));
        CHECK.due("none was added", x.mark(1, 0, 0, 0, 9, 0), 4);
    }

    private static void fullOfMarks() {
        HandArchive x = new HandArchive();
        x.take(0);
        for (int i = 0; i < 10; i++) {
            CHECK.due("mark", x.mark(0, 1, 2, 2 * i, 2 * i + 1, 0), i + 1);
        }
        CHECK.badState("there are 10", () -> x.mark(0, 1, 2, 100, 101, 0));
        CHECK.badArgument("arguments are looked at first", () -> x.mark(0, 1, 2, 100, 100, 0));
        CHECK.noSuch("tiers are looked at first", () -> x.mark(0, 1, 4, 100, 101, 0));
        CHECK.due("another tier is not full", x.mark(0, 1, 1, 100, 101, 0), 1);
        CHECK.due("another coder is not full", x.mark(0, 0, 2, 100, 101, 0), 1);
    }

    private static void wrongMarks() {
        HandArchive x = new HandArchive();
        CHECK.noSuch("no clip", () -> x.mark(0, 0, 0, 0, 1, 0));
        x.take(0);
        CHECK.noSuch("clip below", () -> x.mark(-1, 0, 0, 0, 1, 0));
        CHECK.noSuch("coder above", () -> x.mark(0, 3, 0, 0, 1, 0));
        CHECK.noSuch("coder below", () -> x.mark(0, -1, 0, 0, 1, 0));
        CHECK.noSuch("tier above", () -> x.mark(0, 0, 4, 0, 1, 0));
        CHECK.noSuch("tier below", () -> x.mark(0, 0, -1, 0, 1, 0));
        CHECK.noSuch("the tier is looked at first", () -> x.mark(0, 0, 4, 0, 0, 10));
        CHECK.badArgument("from below", () -> x.mark(0, 0, 0, -1, 1, 0));
        CHECK.badArgument("from above", () -> x.mark(0, 0, 0, 200, 201, 0));
        CHECK.badArgument("to above", () -> x.mark(0, 0, 0, 0, 201, 0));
        CHECK.badArgument("to at from", () -> x.mark(0, 0, 0, 5, 5, 0));
        CHECK.badArgument("to below from", () -> x.mark(0, 0, 0, 5, 4, 0));
        CHECK.badArgument("value below", () -> x.mark(0, 0, 0, 0, 1, -1));
        CHECK.badArgument("value above", () -> x.mark(0, 0, 0, 0, 1, 10));
        CHECK.due("none was added", x.mark(0, 0, 0, 0, 1, 0), 1);
        x.withdraw(0);
        CHECK.noSuch("gone", () -> x.mark(0, 0, 0, 10, 11, 0));
        CHECK.noSuch("gone ones are looked at first", () -> x.mark(0, 0, 0, 11, 10, 0));
    }

    private static void agree() {
        HandArchive x = new HandArchive();
        x.take(0);
        all(x, 0, 1, 0, 0, 0);
        x.mark(0, 0, 0, 0, 10, 0);
        all(x, 0, 1, 0, 10, 0);
        all(x, 1, 0, 0, 10, 0);
        x.mark(0, 1, 0, 5, 15, 1);
        all(x, 0, 1, 0, 15, 0);
        x.mark(0, 1, 0, 0, 5, 0);
        x.mark(0, 0, 0, 10, 14, 1);
        all(x, 0, 1, 9, 15, 1);
        all(x, 1, 0, 9, 15, 1);
        all(x, 0, 0, 14, 14, 2);
        all(x, 0, 2, 0, 14, 0);
        x.mark(0, 0, 0, 199, 200, 9);
        x.mark(0, 1, 0, 199, 200, 9);
        all(x, 0, 1, 10, 16, 2);
        CHECK.due("another tier", x.agree(0, 0, 1, 1, 1), 0);
        x.take(0);
        CHECK.due("another clip", x.agree(1, 0, 1, 0, 1), 0);
    }

    private static void all(HandArchive x, int coder, int other, int same, int any, int marks) {
        CHECK.due("same of " + coder + " " + other, x.agree(0, coder, other, 0, 0), same);
        CHECK.due("any of " + coder + " " + other, x.agree(0, coder, other, 0, 1), any);
        CHECK.due("marks of " + coder + " " + other, x.agree(0, coder, other, 0, 2), marks);
    }

    private static void moreThanHalf() {
        HandArchive x = new HandArchive();
        x.take(0);
        x.mark(0, 0, 0, 0, 4, 5);
        x.mark(0, 1, 0, 0, 2, 5);
        CHECK.due("half is not more", x.agree(0, 0, 1, 0, 2), 0);
        CHECK.due("all of it is", x.agree(0, 1, 0, 0, 2), 1);
        x.mark(0, 1, 0, 2, 3, 5);
        CHECK.due("by several marks together", x.agree(0, 0, 1, 0, 2), 1);
        x.mark(0, 0, 0, 10, 13, 5);
        x.mark(0, 1, 0, 11, 20, 5);
        CHECK.due("2 of 3", x.agree(0, 0, 1, 0, 2), 2);
        CHECK.due("2 of 9 is less", x.agree(0, 1, 0, 0, 2), 2);
        x.mark(0, 0, 0, 30, 33, 4);
        x.mark(0, 1, 0, 30, 33, 3);
        CHECK.due("another value", x.agree(0, 0, 1, 0, 2), 2);
        x.mark(0, 0, 0, 40, 50, 1);
        x.mark(0, 1, 0, 44, 50, 1);
        CHECK.due("6 of 10", x.agree(0, 0, 1, 0, 2), 3);
        x.mark(0, 0, 0, 60, 64, 7);
        x.mark(0, 1, 0, 62, 70, 7);
        CHECK.due("2 of 4, and more behind it", x.agree(0, 0, 1, 0, 2), 3);
        CHECK.due("the third coder has none", x.agree(0, 0, 2, 0, 2), 0);
        CHECK.due("of none", x.agree(0, 2, 0, 0, 2), 0);
    }

    private static void wrongAgrees() {
        HandArchive x = new HandArchive();
        CHECK.noSuch("no clip", () -> x.agree(0, 0, 1, 0, 0));
        x.take(0);
        CHECK.noSuch("clip below", () -> x.agree(-1, 0, 1, 0, 0));
        CHECK.noSuch("coder above", () -> x.agree(0, 3, 1, 0, 0));
        CHECK.noSuch("coder below", () -> x.agree(0, -1, 1, 0, 0));
        CHECK.noSuch("other above", () -> x.agree(0, 0, 3, 0, 0));
        CHECK.noSuch("other below", () -> x.agree(0, 0, -1, 0, 0));
        CHECK.noSuch("tier above", () -> x.agree(0, 0, 1, 4, 0));
        CHECK.noSuch("tier below", () -> x.agree(0, 0, 1, -1, 0));
        CHECK.noSuch("the tier is looked at first", () -> x.agree(0, 0, 1, 4, 3));
        CHECK.badArgument("what above", () -> x.agree(0, 0, 1, 0, 3));
        CHECK.badArgument("what below", () -> x.agree(0, 0, 1, 0, -1));
        x.withdraw(0);
        CHECK.noSuch("gone", () -> x.agree(0, 0, 1, 0, 0));
    }
}
