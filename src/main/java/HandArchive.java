import java.util.ArrayList;

public final class HandArchive {
    public static final int NONE = -1;
    public static final int SIGN = 0, SET = 1, POINT = 2, RELEASE = 3, VERB = 4, LETTER = 5;

    private static final int MOST_SIGNS = 30;
    private static final int MOST_ITEMS = 14;
    private static final int MOST_FACES = 8;
    private static final int MOST_RULES = 6;
    private static final int MOST_CLIPS = 24;
    private static final int MOST_MARKS = 10;

    private static final int SHAPES = 8;
    private static final int PLAIN_SHAPES = 4;
    private static final int PLACES = 9;
    private static final int COLUMNS = 3;
    private static final int TURNS = 4;
    private static final int SECONDS = 3;
    private static final int SCHOOLS = 3;
    private static final int REFERENTS = 10;
    private static final int LETTERS = 26;
    private static final int FACES = 4;
    private static final int ARTICULATORS = 3;
    private static final int PERSONS = 6;
    private static final int PURPOSES = 3;
    private static final int CODERS = 3;
    private static final int TIERS = 4;
    private static final int TICKS = 200;
    private static final int VALUES = 10;

    private static final int NO_SECOND = 0;
    private static final int MIRRORED = 1;
    private static final int BASE = 2;

    private static final int POINTING_SHAPE = 1;
    private static final int POINTING_TURN = 0;
    private static final int LETTER_PLACE = 4;
    private static final int SLIDE_PLACE = 5;
    private static final int[] LOCUS_PLACES = {3, 5, 0, 2};

    private static final int DROP = 0;
    private static final int LIKEN = 1;
    private static final int TURN = 2;
    private static final int SWAP = 3;
    private static final int SLIDE = 4;
    private static final int RULE_KINDS = 5;

    private static final int HELD_BEFORE_MOVING = 2;
    private static final int HELD_BEHIND_MOVING = 2;
    private static final int HELD_STILL = 3;

    private final ArrayList<Hands> signs;
    private final ArrayList<Item> items;
    private final ArrayList<Span> spans;
    private final ArrayList<Rule> rules;
    private final ArrayList<Clip> clips;
    /** For each purpose, bit k for the person k who does not allow it. */
    private final int[] refusals;
    /** Values by tick of the two coders that are compared: made once, as every comparison needs both. */
    private final int[] onesValues;
    private final int[] othersValues;

    public HandArchive() {
        signs = new ArrayList<Hands>();
        items = new ArrayList<Item>();
        spans = new ArrayList<Span>();
        rules = new ArrayList<Rule>();
        clips = new ArrayList<Clip>();
        refusals = new int[PURPOSES];
        onesValues = new int[TICKS];
        othersValues = new int[TICKS];
    }

    // ---- signs

    public int sign(int shape, int from, int to, int begin, int end, int second, int base)
            throws IllegalArgumentException, IllegalStateException {
        boolean isInRange = isBelow(shape, SHAPES) && isBelow(from, PLACES) && isBelow(to, PLACES)
                && isBelow(begin, TURNS) && isBelow(end, TURNS) && isBelow(second, SECONDS);
        if (!isInRange) {
            throw new IllegalArgumentException("an argument is out of its range");
        }
        if (second == BASE && !isPossibleBase(shape, base)) {
            throw new IllegalArgumentException("the base is not one that is possible");
        }
        if (signs.size() >= MOST_SIGNS) {
            throw new IllegalStateException("there are as many signs as there may be");
        }
        Hands told = new Hands(shape, from, to, begin, end, second, base);
        if (firstSignJustLike(told) != NONE) {
            throw new IllegalStateException("one is just so");
        }
        signs.add(told);
        return signs.size() - 1;
    }

    public int nearest(int sign, int what) throws IndexOutOfBoundsException, IllegalArgumentException {
        requireSign(sign);
        if (!isBelow(what, 2)) {
            throw new IllegalArgumentException("what is out of its range");
        }
        Hands hands = signs.get(sign);
        int best = NONE;
        int fewest = NONE;
        for (int i = 0; i < signs.size(); i++) {
            if (i == sign) {
                continue;
            }
            int unlike = hands.countUnlike(signs.get(i));
            if (best == NONE || unlike < fewest) {
                best = i;
                fewest = unlike;
            }
        }
        return what == 0 ? best : fewest;
    }

    public int written(int sign, int school) throws IndexOutOfBoundsException, IllegalArgumentException {
        requireSign(sign);
        requireSchool(school);
        return numberBy(school, signs.get(sign));
    }

    public int loses(int school, int other) throws IllegalArgumentException {
        requireSchool(school);
        requireSchool(other);
        int pairs = 0;
        for (int i = 0; i < signs.size(); i++) {
            for (int j = i + 1; j < signs.size(); j++) {
                if (tellsApart(school, i, j) && !tellsApart(other, i, j)) {
                    pairs++;
                }
            }
        }
        return pairs;
    }

    private boolean tellsApart(int school, int sign, int other) {
        return numberBy(school, signs.get(sign)) != numberBy(school, signs.get(other));
    }

    private static int numberBy(int school, Hands hands) {
        switch (school) {
            case 0:
                return 81 * hands.shape + 9 * hands.from + hands.to;
            case 1:
                return 48 * hands.shape + 12 * hands.begin + 3 * hands.end + hands.second;
            default:
                int plain = hands.shape < PLAIN_SHAPES ? 9 : 0;
                int byRows = direction(rowOf(hands.from), rowOf(hands.to)) + 1;
                int byColumns = direction(columnOf(hands.from), columnOf(hands.to)) + 1;
                return plain + 3 * byRows + byColumns;
        }
    }

    private static boolean isPossibleBase(int shape, int base) {
        return base == shape || isBelow(base, PLAIN_SHAPES);
    }

    private int firstSignJustLike(Hands hands) {
        for (int i = 0; i < signs.size(); i++) {
            if (signs.get(i).isJustLike(hands)) {
                return i;
            }
        }
        return NONE;
    }

    private int countSignsJustLike(Hands hands) {
        int count = 0;
        for (int i = 0; i < signs.size(); i++) {
            if (signs.get(i).isJustLike(hands)) {
                count++;
            }
        }
        return count;
    }

    private boolean isSign(int sign) {
        return isBelow(sign, signs.size());
    }

    private void requireSign(int sign) {
        if (!isSign(sign)) {
            throw new IndexOutOfBoundsException("there is no such sign");
        }
    }

    private static void requireSchool(int school) {
        if (!isBelow(school, SCHOOLS)) {
            throw new IllegalArgumentException("there is no such school");
        }
    }

    // ---- utterances

    public int item(int kind, int one, int other, int last)
            throws IndexOutOfBoundsException, IllegalArgumentException, IllegalStateException {
        if (!hasSignAndLoci(kind, one, other, last)) {
            throw new IndexOutOfBoundsException("there is no such sign or locus");
        }
        if (!isPossibleItem(kind, one, other, last)) {
            throw new IllegalArgumentException("an argument is out of its range, or both loci are the same");
        }
        if (items.size() >= MOST_ITEMS) {
            throw new IllegalStateException("there are as many items as there may be");
        }
        if (!lociStandAsTheyShould(kind, one, other, last)) {
            throw new IllegalStateException("a locus does not stand as it should");
        }
        items.add(new Item(kind, one, other, handsTold(kind, one, other, last)));
        return items.size();
    }

    public int clear() {
        int had = items.size();
        items.clear();
        spans.clear();
        return had;
    }

    public int face(int face, int from, int to)
            throws IndexOutOfBoundsException, IllegalArgumentException, IllegalStateException {
        requireItem(from);
        requireItem(to);
        if (!isBelow(face, FACES) || to < from) {
            throw new IllegalArgumentException("there is no such face, or its span ends ahead of its beginning");
        }
        if (spans.size() >= MOST_FACES) {
            throw new IllegalStateException("there are as many faces as there may be");
        }
        if (isArticulatorBusy(articulatorOf(face), from, to)) {
            throw new IllegalStateException("the articulator has a face that has an item in common");
        }
        spans.add(new Span(face, from, to));
        return spans.size();
    }

    public int shown(int item, int articulator) throws IndexOutOfBoundsException, IllegalArgumentException {
        requireItem(item);
        if (!isBelow(articulator, ARTICULATORS)) {
            throw new IllegalArgumentException("there is no such articulator");
        }
        return faceShown(item, articulator);
    }

    public int standsFor(int item, int locus) throws IndexOutOfBoundsException {
        requireItem(item);
        if (!isLocus(locus)) {
            throw new IndexOutOfBoundsException("there is no such locus");
        }
        return referentBehind(item, locus);
    }

    private boolean hasSignAndLoci(int kind, int one, int other, int last) {
        switch (kind) {
            case SIGN:
                return isSign(one);
            case SET:
            case POINT:
            case RELEASE:
                return isLocus(one);
            case VERB:
                return isSign(one) && isLocus(other) && isLocus(last);
            default:
                return true;
        }
    }

    private static boolean isPossibleItem(int kind, int one, int other, int last) {
        switch (kind) {
            case SIGN:
            case POINT:
            case RELEASE:
                return true;
            case SET:
                return isBelow(other, REFERENTS);
            case VERB:
                return other != last;
            case LETTER:
                return isBelow(one, LETTERS);
            default:
                return false;
        }
    }

    private boolean lociStandAsTheyShould(int kind, int one, int other, int last) {
        switch (kind) {
            case SET:
                return referentNow(one) == NONE && !isReferentPlaced(other);
            case POINT:
            case RELEASE:
                return referentNow(one) != NONE;
            case VERB:
                return referentNow(other) != NONE && referentNow(last) != NONE;
            default:
                return true;
        }
    }

    private boolean isReferentPlaced(int referent) {
        for (int locus = 0; locus < LOCUS_PLACES.length; locus++) {
            if (referentNow(locus) == referent) {
                return true;
            }
        }
        return false;
    }

    private int referentNow(int locus) {
        return referentBehind(items.size() - 1, locus);
    }

    private int referentBehind(int item, int locus) {
        int referent = NONE;
        for (int i = 0; i <= item && i < items.size(); i++) {
            Item passed = items.get(i);
            if (passed.kind == SET && passed.one == locus) {
                referent = passed.referent;
            } else if (passed.kind == RELEASE && passed.one == locus) {
                referent = NONE;
            }
        }
        return referent;
    }

    private Hands handsTold(int kind, int one, int other, int last) {
        if (kind == LETTER) {
            int turn = one / SHAPES;
            return stillHands(one % SHAPES, LETTER_PLACE, turn);
        }
        if (kind != SIGN && kind != VERB || !isSign(one)) {
            return stillHands(POINTING_SHAPE, placeOf(one), POINTING_TURN);
        }
        Hands sign = signs.get(one);
        int from = kind == VERB ? placeOf(other) : sign.from;
        int to = kind == VERB ? placeOf(last) : sign.to;
        return new Hands(sign.shape, from, to, sign.begin, sign.end, sign.second, sign.base);
    }

    private static Hands stillHands(int shape, int place, int turn) {
        return new Hands(shape, place, place, turn, turn, NO_SECOND, NONE);
    }

    private boolean isArticulatorBusy(int articulator, int from, int to) {
        for (int i = 0; i < spans.size(); i++) {
            Span span = spans.get(i);
            if (articulatorOf(span.face) == articulator && span.from <= to && from <= span.to) {
                return true;
            }
        }
        return false;
    }

    /** Goes back from the item over pointings, as a face lasts over those alone behind its span. */
    private int faceShown(int item, int articulator) {
        for (int i = item; i >= 0 && i < items.size(); i--) {
            int face = faceOver(i, articulator);
            if (face != NONE) {
                return face;
            }
            if (!items.get(i).isPointing()) {
                return NONE;
            }
        }
        return NONE;
    }

    private int faceOver(int item, int articulator) {
        for (int i = 0; i < spans.size(); i++) {
            Span span = spans.get(i);
            if (articulatorOf(span.face) == articulator && span.from <= item && item <= span.to) {
                return span.face;
            }
        }
        return NONE;
    }

    private static int articulatorOf(int face) {
        // Both of the first two faces are of the brows.
        return Math.max(0, face - 1);
    }

    private void requireItem(int item) {
        if (!isBelow(item, items.size())) {
            throw new IndexOutOfBoundsException("there is no such item");
        }
    }

    private static boolean isLocus(int locus) {
        return isBelow(locus, LOCUS_PLACES.length);
    }

    private static int placeOf(int locus) {
        return isLocus(locus) ? LOCUS_PLACES[locus] : NONE;
    }

    private static int locusAt(int place) {
        for (int locus = 0; locus < LOCUS_PLACES.length; locus++) {
            if (LOCUS_PLACES[locus] == place) {
                return locus;
            }
        }
        return NONE;
    }

    // ---- rules

    public int rule(int kind) throws IllegalArgumentException, IllegalStateException {
        if (!isBelow(kind, RULE_KINDS)) {
            throw new IllegalArgumentException("there is no such kind of rule");
        }
        if (rules.size() >= MOST_RULES) {
            throw new IllegalStateException("there are as many rules as there may be");
        }
        rules.add(new Rule(kind));
        return rules.size() - 1;
    }

    public boolean except(int rule, int sign) throws IndexOutOfBoundsException {
        if (!isBelow(rule, rules.size())) {
            throw new IndexOutOfBoundsException("there is no such rule");
        }
        requireSign(sign);
        return rules.get(rule).toggleException(sign);
    }

    private void applyRules() {
        for (int i = 0; i < items.size(); i++) {
            Item item = items.get(i);
            item.left.become(item.told);
        }
        for (int i = 0; i < rules.size(); i++) {
            applyRule(rules.get(i));
        }
    }

    private void applyRule(Rule rule) {
        for (int i = 0; i < items.size(); i++) {
            Item item = items.get(i);
            if (item.isOfSign() && rule.hasException(item.one)) {
                continue;
            }
            switch (rule.kind) {
                case DROP:
                    dropMirrored(i, item);
                    break;
                case LIKEN:
                    likenShape(i, item);
                    break;
                case TURN:
                    easeTurn(i, item);
                    break;
                case SWAP:
                    swapEnds(i, item);
                    break;
                case SLIDE:
                    slideLetter(i, item);
                    break;
                default:
                    break;
            }
        }
    }

    private void dropMirrored(int place, Item item) {
        if (item.left.second == MIRRORED && hasNoSecond(place - 1) && hasNoSecond(place + 1)) {
            item.left.second = NO_SECOND;
        }
    }

    private boolean hasNoSecond(int place) {
        return !isBelow(place, items.size()) || items.get(place).left.second == NO_SECOND;
    }

    private void likenShape(int place, Item item) {
        if (!item.isPointing()) {
            return;
        }
        boolean isLast = place + 1 >= items.size();
        int model = isLast ? place - 1 : place + 1;
        if (isBelow(model, items.size())) {
            item.left.shape = items.get(model).left.shape;
        }
    }

    private void easeTurn(int place, Item item) {
        if (!hasItemAhead(place)) {
            return;
        }
        int ended = items.get(place - 1).left.end;
        if (Math.abs(ended - item.left.begin) == 2) {
            item.left.begin = ended;
        }
    }

    private void swapEnds(int place, Item item) {
        if (item.kind != SIGN || !hasItemAhead(place) || !item.left.goes()) {
            return;
        }
        int ended = items.get(place - 1).left.to;
        int from = item.left.from;
        int to = item.left.to;
        if (distance(ended, to) < distance(ended, from)) {
            item.left.from = to;
            item.left.to = from;
        }
    }

    private void slideLetter(int place, Item item) {
        if (item.kind != LETTER || !hasItemAhead(place)) {
            return;
        }
        Item ahead = items.get(place - 1);
        if (ahead.kind == LETTER && ahead.one == item.one) {
            item.left.from = LETTER_PLACE;
            item.left.to = SLIDE_PLACE;
        }
    }

    private boolean hasItemAhead(int place) {
        return isBelow(place - 1, items.size());
    }

    // ---- the figure

    public int signed(int item, int what) throws IndexOutOfBoundsException, IllegalArgumentException {
        requireItem(item);
        if (!isBelow(what, 9)) {
            throw new IllegalArgumentException("what is out of its range");
        }
        signAll();
        Item asked = items.get(item);
        switch (what) {
            case 0:
                return asked.left.shape;
            case 1:
                return asked.left.from;
            case 2:
                return asked.left.to;
            case 3:
                return asked.left.begin;
            case 4:
                return asked.left.end;
            case 5:
                return asked.left.second;
            case 6:
                return asked.passingTick;
            case 7:
                return asked.beginTick;
            default:
                return asked.behindTick;
        }
    }

    public int at(int tick, int what) throws IndexOutOfBoundsException, IllegalArgumentException {
        if (tick < 0) {
            throw new IndexOutOfBoundsException("there is no such tick");
        }
        if (!isBelow(what, 8)) {
            throw new IllegalArgumentException("what is out of its range");
        }
        signAll();
        int place = itemAtTick(tick);
        if (!isBelow(place, items.size())) {
            return NONE;
        }
        Item item = items.get(place);
        boolean isPassing = tick < item.beginTick;
        switch (what) {
            case 0:
                return item.left.shape;
            case 1:
                return isPassing ? placeInPassing(place, tick) : placeInItem(item, tick);
            case 2:
                return isPassing ? item.left.begin : turnInItem(item, tick);
            case 3:
                return isPassing ? NO_SECOND : item.left.second;
            case 7:
                return place;
            default:
                return faceShown(place, what - 4);
        }
    }

    public int readBack(int item, int what) throws IndexOutOfBoundsException, IllegalArgumentException {
        requireItem(item);
        if (!isBelow(what, 3)) {
            throw new IllegalArgumentException("what is out of its range");
        }
        applyRules();
        Item asked = items.get(item);
        int kind = kindReadBack(asked);
        switch (what) {
            case 0:
                return kind;
            case 1:
                return numberReadBack(kind, asked.left);
            default:
                return kind == SIGN ? countSignsJustLike(asked.left) : 0;
        }
    }

    private void signAll() {
        applyRules();
        int tick = 0;
        for (int i = 0; i < items.size(); i++) {
            Item item = items.get(i);
            item.passingTick = tick;
            if (hasItemAhead(i)) {
                tick += ticksOfPassing(items.get(i - 1).left, item.left);
            }
            item.beginTick = tick;
            tick += ticksOfItem(item.left);
            item.behindTick = tick;
        }
    }

    private static int ticksOfPassing(Hands first, Hands next) {
        if (first.shape == next.shape && first.to == next.from && first.end == next.begin) {
            return 0;
        }
        return Math.max(1, distance(first.to, next.from));
    }

    private static int ticksOfItem(Hands hands) {
        if (!hands.goes() && hands.begin == hands.end) {
            return HELD_STILL;
        }
        return HELD_BEFORE_MOVING + Math.max(1, distance(hands.from, hands.to)) + HELD_BEHIND_MOVING;
    }

    private int itemAtTick(int tick) {
        for (int i = 0; i < items.size(); i++) {
            if (tick < items.get(i).behindTick) {
                return i;
            }
        }
        return NONE;
    }

    private int placeInPassing(int place, int tick) {
        Hands next = items.get(place).left;
        int start = hasItemAhead(place) ? items.get(place - 1).left.to : next.from;
        return placeOnWay(start, next.from, tick - items.get(place).passingTick + 1);
    }

    private static int placeInItem(Item item, int tick) {
        return placeOnWay(item.left.from, item.left.to, stepsDone(item, tick));
    }

    private static int turnInItem(Item item, int tick) {
        return stepsDone(item, tick) > 0 ? item.left.end : item.left.begin;
    }

    /** Goes on counting while the item is held at its end, as a way is left at its end at most. */
    private static int stepsDone(Item item, int tick) {
        return Math.max(0, tick - item.beginTick - HELD_BEFORE_MOVING + 1);
    }

    private static int placeOnWay(int from, int to, int steps) {
        int columns = Math.abs(columnOf(to) - columnOf(from));
        int rows = Math.abs(rowOf(to) - rowOf(from));
        int byColumns = Math.min(steps, columns);
        int byRows = Math.min(steps - byColumns, rows);
        return from + byColumns * direction(columnOf(from), columnOf(to))
                + COLUMNS * byRows * direction(rowOf(from), rowOf(to));
    }

    private int kindReadBack(Item item) {
        if (!item.isOfSign()) {
            if (pointingReadBack(item.left) != NONE) {
                return POINT;
            }
            if (letterReadBack(item.left) != NONE) {
                return LETTER;
            }
        }
        return firstSignJustLike(item.left) != NONE ? SIGN : NONE;
    }

    private int numberReadBack(int kind, Hands hands) {
        switch (kind) {
            case SIGN:
                return firstSignJustLike(hands);
            case POINT:
                return pointingReadBack(hands);
            case LETTER:
                return letterReadBack(hands);
            default:
                return NONE;
        }
    }

    private static int pointingReadBack(Hands hands) {
        boolean isPointing = hands.isStill() && hands.begin == POINTING_TURN && hands.shape == POINTING_SHAPE;
        return isPointing ? locusAt(hands.from) : NONE;
    }

    private static int letterReadBack(Hands hands) {
        int letter = SHAPES * hands.begin + hands.shape;
        return hands.isStill() && hands.from == LETTER_PLACE && isBelow(letter, LETTERS) ? letter : NONE;
    }

    // ---- clips

    public int take(int person) throws IndexOutOfBoundsException, IllegalStateException {
        requirePerson(person);
        if (clips.size() >= MOST_CLIPS) {
            throw new IllegalStateException("there were as many clips as there may be");
        }
        return keepClip(new Clip(1 << person, NONE, null, null));
    }

    public int make(int purpose, int clip, int other)
            throws IndexOutOfBoundsException, IllegalArgumentException, IllegalStateException {
        requireClip(clip);
        if (other != NONE) {
            requireClip(other);
        }
        requirePurpose(purpose);
        if (clips.size() >= MOST_CLIPS) {
            throw new IllegalStateException("there were as many clips as there may be");
        }
        Clip one = clips.get(clip);
        Clip two = other == NONE ? one : clips.get(other);
        int persons = one.persons | two.persons;
        if ((persons & refusals[purpose]) != 0) {
            throw new IllegalStateException("a person does not allow it");
        }
        return keepClip(new Clip(persons, purpose, one, two));
    }

    public int allow(int person, int purpose, boolean isAllowed)
            throws IndexOutOfBoundsException, IllegalArgumentException {
        requirePerson(person);
        requirePurpose(purpose);
        if (isAllowed) {
            refusals[purpose] &= ~(1 << person);
            return 0;
        }
        refusals[purpose] |= 1 << person;
        return letGo(person, purpose);
    }

    public int withdraw(int person) throws IndexOutOfBoundsException {
        requirePerson(person);
        return letGo(person, NONE);
    }

    public int persons(int clip) throws IndexOutOfBoundsException {
        if (!isBelow(clip, clips.size())) {
            throw new IndexOutOfBoundsException("there was no such clip");
        }
        Clip asked = clips.get(clip);
        return asked.isGone ? 0 : asked.persons;
    }

    public int mark(int clip, int coder, int tier, int from, int to, int value)
            throws IndexOutOfBoundsException, IllegalArgumentException, IllegalStateException {
        requireClip(clip);
        requireCoder(coder);
        requireTier(tier);
        if (!isBelow(from, TICKS) || to <= from || to > TICKS || !isBelow(value, VALUES)) {
            throw new IllegalArgumentException("from, to or value is out of its range");
        }
        Clip marked = clips.get(clip);
        int had = marked.countMarks(coder, tier);
        if (had >= MOST_MARKS) {
            throw new IllegalStateException("there are as many marks as there may be");
        }
        if (marked.hasMarkWithin(coder, tier, from, to)) {
            throw new IllegalStateException("a mark has a tick in common with it");
        }
        marked.marks.add(new Mark(coder, tier, from, to, value));
        return had + 1;
    }

    public int agree(int clip, int coder, int other, int tier, int what)
            throws IndexOutOfBoundsException, IllegalArgumentException {
        requireClip(clip);
        requireCoder(coder);
        requireCoder(other);
        requireTier(tier);
        if (!isBelow(what, 3)) {
            throw new IllegalArgumentException("what is out of its range");
        }
        Clip asked = clips.get(clip);
        asked.writeValues(coder, tier, onesValues);
        asked.writeValues(other, tier, othersValues);
        switch (what) {
            case 0:
                return countTicksAlike();
            case 1:
                return countTicksWithValue();
            default:
                return countMarksShared(asked, coder, tier);
        }
    }

    private int keepClip(Clip clip) {
        clips.add(clip);
        return clips.size() - 1;
    }

    /** Goes upwards by numbers, so that what a clip was made of has been looked at before it. */
    private int letGo(int person, int purpose) {
        int gone = 0;
        for (int i = 0; i < clips.size(); i++) {
            Clip clip = clips.get(i);
            boolean isMeant = clip.comesFrom(person) && (purpose == NONE || clip.purpose == purpose);
            if (!clip.isGone && (isMeant || clip.isMadeOfGone())) {
                clip.isGone = true;
                clip.marks.clear();
                gone++;
            }
        }
        return gone;
    }

    private int countTicksAlike() {
        int count = 0;
        for (int tick = 0; tick < onesValues.length && tick < othersValues.length; tick++) {
            if (onesValues[tick] != NONE && onesValues[tick] == othersValues[tick]) {
                count++;
            }
        }
        return count;
    }

    private int countTicksWithValue() {
        int count = 0;
        for (int tick = 0; tick < onesValues.length && tick < othersValues.length; tick++) {
            if (onesValues[tick] != NONE || othersValues[tick] != NONE) {
                count++;
            }
        }
        return count;
    }

    private int countMarksShared(Clip clip, int coder, int tier) {
        int count = 0;
        for (int i = 0; i < clip.marks.size(); i++) {
            Mark mark = clip.marks.get(i);
            if (mark.isOf(coder, tier) && 2 * mark.countTicksIn(othersValues) > mark.to - mark.from) {
                count++;
            }
        }
        return count;
    }

    private void requireClip(int clip) {
        if (!isBelow(clip, clips.size()) || clips.get(clip).isGone) {
            throw new IndexOutOfBoundsException("there is no such clip, or it is gone");
        }
    }

    private static void requirePerson(int person) {
        if (!isBelow(person, PERSONS)) {
            throw new IndexOutOfBoundsException("there is no such person");
        }
    }

    private static void requirePurpose(int purpose) {
        if (!isBelow(purpose, PURPOSES)) {
            throw new IllegalArgumentException("there is no such purpose");
        }
    }

    private static void requireCoder(int coder) {
        if (!isBelow(coder, CODERS)) {
            throw new IndexOutOfBoundsException("there is no such coder");
        }
    }

    private static void requireTier(int tier) {
        if (!isBelow(tier, TIERS)) {
            throw new IndexOutOfBoundsException("there is no such tier");
        }
    }

    // ---- numbers and places

    private static boolean isBelow(int number, int bound) {
        return number >= 0 && number < bound;
    }

    private static int rowOf(int place) {
        return place / COLUMNS;
    }

    private static int columnOf(int place) {
        return place % COLUMNS;
    }

    private static int distance(int place, int other) {
        return Math.abs(rowOf(place) - rowOf(other)) + Math.abs(columnOf(place) - columnOf(other));
    }

    private static int direction(int from, int to) {
        if (to == from) {
            return 0;
        }
        return to > from ? 1 : -1;
    }

    /** What hands do: of a sign as told, and of an item as told and as rules have left it. */
    private static final class Hands {
        private int shape;
        private int from;
        private int to;
        private int begin;
        private int end;
        private int second;
        private int base;

        Hands(int shape, int from, int to, int begin, int end, int second, int base) {
            this.shape = shape;
            this.from = from;
            this.to = to;
            this.begin = begin;
            this.end = end;
            this.second = second;
            // The shape of a base does not matter without one, so that it must not make signs unlike.
            this.base = second == BASE ? base : NONE;
        }

        void become(Hands other) {
            shape = other.shape;
            from = other.from;
            to = other.to;
            begin = other.begin;
            end = other.end;
            second = other.second;
            base = other.base;
        }

        /** The shape of a base does not count here. */
        int countUnlike(Hands other) {
            int count = 0;
            count += shape == other.shape ? 0 : 1;
            count += from == other.from ? 0 : 1;
            count += to == other.to ? 0 : 1;
            count += begin == other.begin ? 0 : 1;
            count += end == other.end ? 0 : 1;
            count += second == other.second ? 0 : 1;
            return count;
        }

        boolean isJustLike(Hands other) {
            return countUnlike(other) == 0 && base == other.base;
        }

        boolean goes() {
            return from != to;
        }

        boolean isStill() {
            return !goes() && begin == end;
        }
    }

    private static final class Item {
        private final int kind;
        /** The sign, locus or letter. */
        private final int one;
        /** For whom a SET lets its locus stand. */
        private final int referent;
        private final Hands told;
        private final Hands left;
        private int passingTick;
        private int beginTick;
        private int behindTick;

        Item(int kind, int one, int referent, Hands told) {
            this.kind = kind;
            this.one = one;
            this.referent = referent;
            this.told = told;
            this.left = new Hands(told.shape, told.from, told.to, told.begin, told.end, told.second, told.base);
        }

        boolean isPointing() {
            return kind == SET || kind == POINT || kind == RELEASE;
        }

        boolean isOfSign() {
            return kind == SIGN || kind == VERB;
        }
    }

    private static final class Span {
        private final int face;
        private final int from;
        private final int to;

        Span(int face, int from, int to) {
            this.face = face;
            this.from = from;
            this.to = to;
        }
    }

    private static final class Rule {
        private final int kind;
        private final boolean[] exceptions;

        Rule(int kind) {
            this.kind = kind;
            this.exceptions = new boolean[MOST_SIGNS];
        }

        boolean hasException(int sign) {
            return isBelow(sign, exceptions.length) && exceptions[sign];
        }

        boolean toggleException(int sign) {
            if (isBelow(sign, exceptions.length)) {
                exceptions[sign] = !exceptions[sign];
            }
            return hasException(sign);
        }
    }

    private static final class Clip {
        private final int persons;
        private final int purpose;
        private final Clip one;
        private final Clip other;
        private final ArrayList<Mark> marks;
        private boolean isGone;

        Clip(int persons, int purpose, Clip one, Clip other) {
            this.persons = persons;
            this.purpose = purpose;
            this.one = one;
            this.other = other;
            this.marks = new ArrayList<Mark>();
        }

        boolean comesFrom(int person) {
            return (persons >> person & 1) == 1;
        }

        boolean isMadeOfGone() {
            return one != null && one.isGone || other != null && other.isGone;
        }

        int countMarks(int coder, int tier) {
            int count = 0;
            for (int i = 0; i < marks.size(); i++) {
                if (marks.get(i).isOf(coder, tier)) {
                    count++;
                }
            }
            return count;
        }

        boolean hasMarkWithin(int coder, int tier, int from, int to) {
            for (int i = 0; i < marks.size(); i++) {
                Mark mark = marks.get(i);
                if (mark.isOf(coder, tier) && mark.from < to && from < mark.to) {
                    return true;
                }
            }
            return false;
        }

        void writeValues(int coder, int tier, int[] values) {
            for (int tick = 0; tick < values.length; tick++) {
                values[tick] = NONE;
            }
            for (int i = 0; i < marks.size(); i++) {
                if (marks.get(i).isOf(coder, tier)) {
                    marks.get(i).writeValue(values);
                }
            }
        }
    }

    private static final class Mark {
        private final int coder;
        private final int tier;
        private final int from;
        private final int to;
        private final int value;

        Mark(int coder, int tier, int from, int to, int value) {
            this.coder = coder;
            this.tier = tier;
            this.from = from;
            this.to = to;
            this.value = value;
        }

        boolean isOf(int aCoder, int aTier) {
            return coder == aCoder && tier == aTier;
        }

        void writeValue(int[] values) {
            for (int tick = from; tick < to && isBelow(tick, values.length); tick++) {
                values[tick] = value;
            }
        }

        int countTicksIn(int[] values) {
            int count = 0;
            for (int tick = from; tick < to && isBelow(tick, values.length); tick++) {
                if (values[tick] == value) {
                    count++;
                }
            }
            return count;
        }
    }
}
