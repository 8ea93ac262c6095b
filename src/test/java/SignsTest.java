/** Promises 1 to 5: a new object, sign, nearest, written, loses. */
public final class SignsTest {
    private static final Check CHECK = new Check();

    public static void main(String[] args) {
        newObject();
        signs();
        rangesOfSign();
        bases();
        fullOfSigns();
        nearest();
        written();
        loses();
        CHECK.end();
    }

    private static void newObject() {
        HandArchive x = new HandArchive();
        CHECK.noSuch("no sign", () -> x.written(0, 0));
        CHECK.noSuch("no item", () -> x.signed(0, 0));
        CHECK.noSuch("no rule", () -> x.except(0, 0));
        CHECK.noSuch("no clip", () -> x.persons(0));
        CHECK.due("clear of nothing", x.clear(), 0);
        CHECK.due("at of nothing", x.at(0, 7), HandArchive.NONE);
        CHECK.due("first sign", x.sign(0, 0, 0, 0, 0, 0, 0), 0);
        CHECK.due("first rule", x.rule(0), 0);
        CHECK.due("first item", x.item(HandArchive.SIGN, 0, 0, 0), 1);
        CHECK.due("first face", x.face(0, 0, 0), 1);
        CHECK.due("first clip", x.take(0), 0);
        for (int purpose = 0; purpose < 3; purpose++) {
            CHECK.due("all purposes are allowed", x.make(purpose, 0, HandArchive.NONE), 1 + purpose);
        }
        HandArchive y = new HandArchive();
        CHECK.noSuch("objects share no signs", () -> y.written(0, 0));
        CHECK.due("objects share no clips", y.take(3), 0);
    }

    private static void signs() {
        HandArchive x = new HandArchive();
        int[] told = {5, 4, 3, 2, 1, 0, 0};
        CHECK.due("first", sign(x, told), 0);
        CHECK.badState("just so", () -> sign(x, told));
        int[] others = {4, 5, 6, 3, 2, 1};
        for (int i = 0; i < others.length; i++) {
            int[] unlike = told.clone();
            unlike[i] = others[i];
            CHECK.due("unlike in " + i, sign(x, unlike), 1 + i);
            CHECK.badState("just so, unlike in " + i, () -> sign(x, unlike));
        }
        CHECK.due("the highest of all", x.sign(7, 8, 8, 3, 3, 2, 7), 7);
        CHECK.due("the lowest of all", x.sign(0, 0, 0, 0, 0, 0, 0), 8);
    }

    private static void rangesOfSign() {
        HandArchive x = new HandArchive();
        int[] above = {8, 9, 9, 4, 4, 3};
        int[] good = {0, 0, 0, 0, 0, 0, 0};
        for (int i = 0; i < above.length; i++) {
            int[] low = good.clone();
            low[i] = -1;
            CHECK.badArgument("too low: " + i, () -> sign(x, low));
            int[] high = good.clone();
            high[i] = above[i];
            CHECK.badArgument("too high: " + i, () -> sign(x, high));
            int[] wild = good.clone();
            wild[i] = Integer.MIN_VALUE;
            CHECK.badArgument("wild: " + i, () -> sign(x, wild));
        }
        CHECK.due("nothing was told", sign(x, good), 0);
    }

    private static void bases() {
        HandArchive x = new HandArchive();
        CHECK.due("without a base it does not matter", x.sign(6, 0, 0, 0, 0, 0, 99), 0);
        CHECK.badState("nor does it make unlike", () -> x.sign(6, 0, 0, 0, 0, 0, -7));
        CHECK.due("mirrored, likewise", x.sign(6, 0, 0, 0, 0, 1, 5), 1);
        CHECK.badState("mirrored, just so", () -> x.sign(6, 0, 0, 0, 0, 1, 4));
        CHECK.due("the sign's own shape", x.sign(6, 0, 0, 0, 0, 2, 6), 2);
        CHECK.due("plain 0", x.sign(6, 0, 0, 0, 0, 2, 0), 3);
        CHECK.due("plain 3", x.sign(6, 0, 0, 0, 0, 2, 3), 4);
        CHECK.badState("just so, with the base", () -> x.sign(6, 0, 0, 0, 0, 2, 3));
        CHECK.badArgument("neither plain nor its own: 4", () -> x.sign(6, 0, 0, 0, 0, 2, 4));
        CHECK.badArgument("neither plain nor its own: 7", () -> x.sign(6, 0, 0, 0, 0, 2, 7));
        CHECK.badArgument("of a plain sign", () -> x.sign(1, 0, 0, 0, 0, 2, 5));
        CHECK.badArgument("below", () -> x.sign(6, 0, 0, 0, 0, 2, -1));
        CHECK.badArgument("above", () -> x.sign(6, 0, 0, 0, 0, 2, 8));
        CHECK.due("nothing was told", x.sign(7, 0, 0, 0, 0, 0, 0), 5);
    }

    private static void fullOfSigns() {
        HandArchive x = new HandArchive();
        for (int i = 0; i < 30; i++) {
            CHECK.due("sign", x.sign(i % 8, i / 8, 0, 0, 0, 0, 0), i);
        }
        CHECK.badState("there are 30", () -> x.sign(7, 7, 7, 0, 0, 0, 0));
        CHECK.badArgument("arguments are looked at first", () -> x.sign(8, 7, 7, 0, 0, 0, 0));
        CHECK.badArgument("the base also", () -> x.sign(7, 7, 7, 0, 0, 2, 5));
        CHECK.due("the last one", x.written(29, 0), 81 * 5 + 27);
        CHECK.noSuch("there is none behind", () -> x.written(30, 0));
    }

    private static void nearest() {
        HandArchive x = new HandArchive();
        x.sign(6, 0, 8, 0, 0, 2, 1);
        CHECK.due("alone", x.nearest(0, 0), HandArchive.NONE);
        CHECK.due("alone, in how many", x.nearest(0, 1), HandArchive.NONE);
        x.sign(1, 2, 3, 1, 1, 1, 0);
        CHECK.due("unlike in all", x.nearest(0, 1), 6);
        CHECK.due("the other one", x.nearest(0, 0), 1);
        CHECK.due("and back", x.nearest(1, 0), 0);
        x.sign(1, 2, 8, 0, 0, 2, 1);
        x.sign(6, 2, 3, 0, 0, 2, 1);
        CHECK.due("the first one of the nearest", x.nearest(0, 0), 2);
        CHECK.due("in how many", x.nearest(0, 1), 2);
        x.sign(6, 0, 8, 0, 0, 2, 6);
        CHECK.due("the base does not count", x.nearest(0, 1), 0);
        CHECK.due("a nearer one behind", x.nearest(0, 0), 4);
        int[] told = {5, 4, 3, 2, 1, 0, 0};
        int[] others = {4, 5, 6, 3, 2, 1};
        for (int i = 0; i < others.length; i++) {
            HandArchive y = new HandArchive();
            sign(y, told);
            int[] unlike = told.clone();
            unlike[i] = others[i];
            sign(y, unlike);
            CHECK.due("each counts: " + i, y.nearest(0, 1), 1);
        }
        CHECK.noSuch("no such sign", () -> x.nearest(5, 0));
        CHECK.noSuch("below", () -> x.nearest(-1, 0));
        CHECK.noSuch("the sign is looked at first", () -> x.nearest(5, 2));
        CHECK.badArgument("what above", () -> x.nearest(0, 2));
        CHECK.badArgument("what below", () -> x.nearest(0, -1));
    }

    private static void written() {
        HandArchive x = new HandArchive();
        x.sign(7, 5, 3, 2, 3, 1, 0);
        CHECK.due("school 0", x.written(0, 0), 567 + 45 + 3);
        CHECK.due("school 1", x.written(0, 1), 336 + 24 + 9 + 1);
        CHECK.due("school 2, to the left", x.written(0, 2), 3);
        x.sign(3, 4, 4, 0, 0, 0, 0);
        CHECK.due("plain, still", x.written(1, 2), 9 + 3 + 1);
        x.sign(4, 4, 4, 0, 0, 0, 0);
        CHECK.due("not plain, still", x.written(2, 2), 3 + 1);
        x.sign(0, 7, 1, 0, 0, 0, 0);
        CHECK.due("plain, up", x.written(3, 2), 9 + 1);
        x.sign(4, 2, 6, 0, 0, 2, 3);
        CHECK.due("down and to the left", x.written(4, 2), 6);
        CHECK.due("a base", x.written(4, 1), 192 + 2);
        x.sign(4, 6, 2, 0, 0, 0, 0);
        CHECK.due("up and to the right", x.written(5, 2), 2);
        CHECK.noSuch("no such sign", () -> x.written(6, 0));
        CHECK.noSuch("below", () -> x.written(-1, 0));
        CHECK.noSuch("the sign is looked at first", () -> x.written(6, 3));
        CHECK.badArgument("school above", () -> x.written(0, 3));
        CHECK.badArgument("school below", () -> x.written(0, -1));
    }

    private static void loses() {
        HandArchive x = new HandArchive();
        CHECK.due("of no signs", x.loses(0, 1), 0);
        x.sign(0, 0, 1, 0, 0, 0, 0);
        x.sign(0, 1, 2, 0, 0, 0, 0);
        x.sign(0, 0, 1, 1, 0, 0, 0);
        // School 0 tells 1 from the others, school 1 tells 2 from the others, school 2 tells none apart.
        CHECK.due("0 not 1", x.loses(0, 1), 1);
        CHECK.due("1 not 0", x.loses(1, 0), 1);
        CHECK.due("0 not 2", x.loses(0, 2), 2);
        CHECK.due("1 not 2", x.loses(1, 2), 2);
        CHECK.due("2 not 0", x.loses(2, 0), 0);
        CHECK.due("2 not 1", x.loses(2, 1), 0);
        CHECK.due("a school loses nothing of itself", x.loses(2, 2), 0);
        CHECK.badArgument("school above", () -> x.loses(3, 0));
        CHECK.badArgument("other above", () -> x.loses(0, 3));
        CHECK.badArgument("school below", () -> x.loses(-1, 0));
        CHECK.badArgument("other below", () -> x.loses(0, -1));
    }

    private static int sign(HandArchive x, int[] a) {
        return x.sign(a[0], a[1], a[2], a[3], a[4], a[5], a[6]);
    }
}
