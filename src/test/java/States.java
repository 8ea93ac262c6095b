/** Objects in states from which a call meets a bound. Each is made by fewer than a hundred calls. */
final class States {
    private static final int NONE = HandArchive.NONE;

    private States() {
    }

    static HandArchive none() {
        return new HandArchive();
    }

    /** Signs 0, 1 and 2, with each kind of second hand. */
    static HandArchive threeSigns() {
        HandArchive x = none();
        x.sign(4, 4, 5, 0, 0, 0, 0);
        x.sign(6, 0, 8, 0, 0, 2, 1);
        x.sign(2, 3, 3, 1, 3, 1, 0);
        return x;
    }

    static HandArchive thirtySigns() {
        HandArchive x = none();
        for (int i = 0; i < 30; i++) {
            x.sign(i % 8, i / 8, i % 9, 0, i % 4, i % 3, i % 4);
        }
        return x;
    }

    /** All loci stand: locus k for the referent 2 + k. */
    static HandArchive allLociStand() {
        HandArchive x = threeSigns();
        for (int locus = 0; locus < 4; locus++) {
            x.item(HandArchive.SET, locus, 2 + locus, 0);
        }
        return x;
    }

    /** Locus 0 stands for the referent 2, locus 1 did for 3, and the others never did. Items 0 to 4. */
    static HandArchive oneLocusStands() {
        HandArchive x = threeSigns();
        x.item(HandArchive.SET, 0, 2, 0);
        x.item(HandArchive.SET, 1, 3, 0);
        x.item(HandArchive.SIGN, 0, 0, 0);
        x.item(HandArchive.RELEASE, 1, 0, 0);
        x.item(HandArchive.LETTER, 9, 0, 0);
        return x;
    }

    /** Loci 0 and 1 stand, in 14 items of all kinds. */
    static HandArchive fourteenItems() {
        HandArchive x = threeSigns();
        x.item(HandArchive.SET, 0, 2, 0);
        x.item(HandArchive.SET, 1, 3, 0);
        x.item(HandArchive.SET, 2, 4, 0);
        x.item(HandArchive.RELEASE, 2, 0, 0);
        x.item(HandArchive.VERB, 2, 0, 1);
        x.item(HandArchive.POINT, 1, 0, 0);
        for (int i = 6; i < 14; i++) {
            x.item(i % 2 == 0 ? HandArchive.SIGN : HandArchive.LETTER, i % 3, 0, 0);
        }
        return x;
    }

    /** Of the three items 0 to 2, item 0 has the brows up, items 0 and 1 the head, and none the mouth. */
    static HandArchive twoFaces() {
        HandArchive x = threeSigns();
        for (int sign = 0; sign < 3; sign++) {
            x.item(HandArchive.SIGN, sign, 0, 0);
        }
        x.face(0, 0, 0);
        x.face(2, 0, 1);
        return x;
    }

    /** The brows of the items 0 to 7 of 14 are taken. */
    static HandArchive eightFaces() {
        HandArchive x = fourteenItems();
        for (int item = 0; item < 8; item++) {
            x.face(item % 2, item, item);
        }
        return x;
    }

    /** Rules 0 and 1 of an utterance that they change; sign 0 is an exception of rule 0. */
    static HandArchive twoRules() {
        HandArchive x = fourteenItems();
        x.rule(1);
        x.rule(2);
        x.except(0, 0);
        return x;
    }

    static HandArchive sixRules() {
        HandArchive x = fourteenItems();
        for (int rule = 0; rule < 6; rule++) {
            x.rule(rule % 5);
        }
        x.except(5, 2);
        return x;
    }

    /**
     * Clips 0, 1 and 2 of the persons 0, 1 and 2, clip 3 made of 0 and 1, clip 4 of 3; clips 2, 5 and 6 are gone.
     * Person 1 allows the purpose 2 no more, and person 5 none.
     */
    static HandArchive clips() {
        HandArchive x = none();
        x.take(0);
        x.take(1);
        x.take(2);
        x.make(0, 0, 1);
        x.make(1, 3, NONE);
        x.make(2, 1, NONE);
        x.make(0, 0, 2);
        x.allow(1, 2, false);
        x.withdraw(2);
        for (int purpose = 0; purpose < 3; purpose++) {
            x.allow(5, purpose, false);
        }
        return x;
    }

    /** Clips 0 to 22 of the person 0, clip 23 of the person 1, who allows the purpose 1 no more; clip 22 is gone. */
    static HandArchive twentyFourClips() {
        HandArchive x = none();
        for (int clip = 0; clip < 22; clip++) {
            x.take(0);
        }
        x.take(2);
        x.take(1);
        x.allow(1, 1, false);
        x.withdraw(2);
        return x;
    }

    /** The tier 2 of the coder 1 of clip 0 has 10 marks of one tick each, 0, 20, 40 and so on; clip 1 is gone. */
    static HandArchive tenMarks() {
        HandArchive x = none();
        x.take(0);
        x.take(1);
        x.withdraw(1);
        for (int mark = 0; mark < 10; mark++) {
            x.mark(0, 1, 2, 20 * mark, 20 * mark + 1, mark);
        }
        return x;
    }

    /** Clip 0 has a mark of the ticks 50 to 59 by the coder 1 on the tier 2; clip 1 is gone. */
    static HandArchive oneMark() {
        HandArchive x = none();
        x.take(0);
        x.take(1);
        x.withdraw(1);
        x.mark(0, 1, 2, 50, 60, 5);
        return x;
    }
}
