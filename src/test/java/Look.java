/**
 * All that calls tell of a state, written down, so that two states can be compared. Each part is asked of an object
 * of its own, as an object answers 512 calls only, and as the last calls of a part change it.
 */
final class Look {
    private final StringBuilder text = new StringBuilder();
    private HandArchive x;

    private Look() {
    }

    /** What is told behind a call that should be refused; without one if it is null. */
    static String at(Bounds.State state, Bounds.Ask refused) {
        Look look = new Look();
        look.begin(state, refused);
        look.utterance();
        look.begin(state, refused);
        look.signsAndRules();
        look.begin(state, refused);
        look.clips();
        return look.text.toString();
    }

    private void begin(Bounds.State state, Bounds.Ask refused) {
        x = state.make();
        if (refused != null) {
            answer(refused);
        }
        text.append('\n');
    }

    private void utterance() {
        for (int i = 0; i < 14; i++) {
            int item = i;
            all(9, what -> x.signed(item, what));
            all(3, what -> x.readBack(item, what));
            all(4, locus -> x.standsFor(item, locus));
            all(3, articulator -> x.shown(item, articulator));
        }
        all(14, item -> x.face(3, item, item));
        all(2, letter -> x.item(HandArchive.LETTER, letter, 0, 0));
    }

    private void signsAndRules() {
        for (int i = 0; i < 31; i++) {
            int sign = i;
            all(2, school -> x.written(sign, school));
            all(2, what -> x.nearest(sign, what));
        }
        all(9, schools -> x.loses(schools / 3, schools % 3));
        all(7 * 31, pair -> x.except(pair / 31, pair % 31) ? 1 : 0);
        all(7, kind -> x.rule(0));
        all(31, place -> x.sign(7, 8, place % 9, 3, place / 9, 0, 0));
    }

    private void clips() {
        all(25, clip -> x.persons(clip));
        all(24 * 12, tier -> x.agree(tier / 12, tier % 3, tier % 3, tier / 3 % 4, 1));
        all(3 * 12, tier -> x.agree(tier / 12, tier % 3, (tier + 1) % 3, tier / 3 % 4, 0));
        all(18, pair -> x.make(pair % 3, pair / 3, HandArchive.NONE));
        all(1, person -> x.take(person));
    }

    private interface Asked {
        long of(int number);
    }

    private void all(int count, Asked asked) {
        for (int i = 0; i < count; i++) {
            int number = i;
            text.append(answer(archive -> asked.of(number))).append(' ');
        }
        text.append('|');
    }

    private String answer(Bounds.Ask call) {
        try {
            return Long.toString(call.on(x));
        } catch (RuntimeException e) {
            return e.getClass().getSimpleName();
        }
    }
}
