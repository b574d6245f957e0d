/**
 * A keeper of answers already given, and of the asks that look for them.
 *
 * <p>What follows from the rest (the parts of joined answers at any depth, doubts, folded words) is written
 * into the answers by settle() after each change, so that the calls that only tell something need no more
 * than to read it. No call throws: an index, a number of an answer or of an ask is looked at before its use.
 */
public final class AnswerKeeper {
    public static final int NONE = -1, UNKNOWN = -1001, OUTSIDE = -1002, NOT = -1003, FULL = -1004;

    private static final int MOST_ANSWERS = 24, MOST_ASKS = 30, MOST_PARTS = 4;
    private static final int WORD_COUNT = 40, THING_COUNT = 10, ASPECTS = 3;
    private static final int MOST_STEPS = 9999, MOST_NEAR = 10, MOST_LIMIT = 200, MOST_THINGS = 1023;
    private static final int PLAIN = 0, JOINED = 1, MOVED = 2;
    private static final int PER_MISSING = 10, PER_SPARE = 3, FOR_DOUBT = 15, FOR_QUESTION = 5, MOST_VOTES = 9;

    /** All VALUES of each ASPECT, as a SET. */
    private static final int[] ALL_VALUES = {255, 1023, 15};

    private final Book book = new Book();
    private final Things things = new Things();
    private final Answer[] answers = new Answer[MOST_ANSWERS];
    private final Ask[] asks = new Ask[MOST_ASKS];
    private int answerCount = 0;
    private int askCount = 0;
    private int near = 2;
    private int limit = 20;

    public AnswerKeeper() {
    }

    // ---- the book, things

    public int fold(int w, int to) {
        if (!isWord(w) || !isWord(to)) {
            return OUTSIDE;
        }
        int was = book.foldOf(w);
        book.turn(w, to);
        settle();
        return was;
    }

    public int changed(int thing) {
        int state = things.change(thing);
        settle();
        return state;
    }

    public int rule(int what, int v) {
        if (what == 0 && within(v, 0, MOST_NEAR)) {
            int was = near;
            near = v;
            return was;
        }
        if (what == 1 && within(v, 0, MOST_LIMIT)) {
            int was = limit;
            limit = v;
            return was;
        }
        return OUTSIDE;
    }

    // ---- answers

    public int answer(long words, int steps, int products, int editions, int roles) {
        if (!isSetOfWords(words) || !within(steps, 0, MOST_STEPS)
                || !isSetOfValues(0, products) || !isSetOfValues(1, editions) || !isSetOfValues(2, roles)) {
            return OUTSIDE;
        }
        if (answerCount >= answers.length) {
            return FULL;
        }
        Answer plain = new Answer(answerCount, PLAIN, steps);
        plain.words = words;
        plain.putSets(products, editions, roles);
        plain.sure = things.now();
        keep(plain);
        return plain.number;
    }

    public int join(int a, int b, int c, int d) {
        if (!isAnswer(a) || !isAnswer(b) || c != NONE && !isAnswer(c) || d != NONE && !isAnswer(d)) {
            return UNKNOWN;
        }
        int count = c == NONE ? 2 : d == NONE ? 3 : 4;
        int together = bit(a) | bit(b) | bit(c) | bit(d);
        if (c == NONE && d != NONE || Integer.bitCount(together) != count || !areAllPlain(together)) {
            return NOT;
        }
        if (answerCount >= answers.length) {
            return FULL;
        }
        Answer joined = new Answer(answerCount, JOINED, NONE);
        joined.putParts(a, b, c, d);
        keep(joined);
        return joined.number;
    }

    public int bind(int a, int things) {
        Answer x = answerAt(a);
        if (x == null) {
            return UNKNOWN;
        }
        if (!within(things, 0, MOST_THINGS)) {
            return OUTSIDE;
        }
        if (x.kindNow() != PLAIN) {
            return NOT;
        }
        int was = x.things;
        x.things = things;
        settle();
        return was;
    }

    public int confirm(int a) {
        Answer x = answerAt(a);
        if (x == null) {
            return UNKNOWN;
        }
        if (x.kindNow() != PLAIN) {
            return NOT;
        }
        int was = x.isDoubted() ? 1 : 0;
        x.sure = things.now();
        settle();
        return was;
    }

    public int move(int a, int b) {
        Answer from = answerAt(a);
        Answer to = endOf(b);
        if (from == null || to == null) {
            return UNKNOWN;
        }
        if (from.isMoved() || to.number == from.number || (to.under & bit(from.number)) != 0) {
            return NOT;
        }
        leadOn(from.number, to.number);
        settle();
        return to.number;
    }

    public int melt(int a, int b) {
        Answer into = answerAt(a);
        Answer from = answerAt(b);
        if (into == null || from == null) {
            return UNKNOWN;
        }
        if (a == b || !mayMelt(into, from)) {
            return NOT;
        }
        into.takeAllOf(from);
        leadOn(from.number, into.number);
        settle();
        return 1;
    }

    public int vote(int a, boolean up) {
        Answer x = answerAt(a);
        if (x == null) {
            return UNKNOWN;
        }
        if (x.isMoved()) {
            return NOT;
        }
        x.votes += up ? 1 : -1;
        return x.votes;
    }

    public int told(int a, int what) {
        Answer x = answerAt(a);
        if (x == null) {
            return UNKNOWN;
        }
        switch (what) {
            case 0:
                return x.kindNow();
            case 1:
                return x.end;
            case 2:
                return x.steps;
            case 3:
            case 4:
            case 5:
                return x.setOf(what - 3);
            case 6:
                return x.things;
            case 7:
                return x.isDoubted() ? 1 : 0;
            case 8:
                return x.votes;
            case 9:
                return x.partCount();
            case 10:
            case 11:
            case 12:
            case 13:
                return partNow(x, what - 10);
            default:
                return OUTSIDE;
        }
    }

    public long words(int a) {
        Answer x = answerAt(a);
        return x == null ? UNKNOWN : x.words;
    }

    public int holds(int a, int product, int edition, int role) {
        Answer x = answerAt(a);
        if (x == null) {
            return UNKNOWN;
        }
        if (!isValue(0, product) || !isValue(1, edition) || !isValue(2, role)) {
            return OUTSIDE;
        }
        boolean inAll = x.hasValue(0, product) && x.hasValue(1, edition) && x.hasValue(2, role);
        return inAll && !x.isMoved() ? 1 : 0;
    }

    public int count(int what) {
        switch (what) {
            case 0:
                return answerCount;
            case 1:
            case 2:
            case 3:
                return kindCount(what - 1);
            case 4:
                return doubtedCount();
            case 5:
                return quarrelCount();
            case 6:
                return askCount;
            case 7:
                return Integer.bitCount(asksInVain());
            case 8:
                return heapCount(asksInVain());
            default:
                return OUTSIDE;
        }
    }

    public int quarrel(int i, int what) {
        if (!within(what, 0, 4)) {
            return OUTSIDE;
        }
        int seen = 0;
        for (int a = 0; a < answerCount; a++) {
            for (int b = a + 1; b < answerCount; b++) {
                if (areQuarrelling(answerAt(a), answerAt(b))) {
                    if (seen == i) {
                        return quarrelPart(a, b, what);
                    }
                    seen++;
                }
            }
        }
        return NONE;
    }

    // ---- asks

    public int ask(long words, int product, int edition, int role) {
        if (!isSetOfWords(words)
                || !isValueOrNone(0, product) || !isValueOrNone(1, edition) || !isValueOrNone(2, role)) {
            return OUTSIDE;
        }
        if (askCount >= asks.length) {
            return FULL;
        }
        asks[askCount] = new Ask(words, product, edition, role);
        askCount++;
        settle();
        return askCount - 1;
    }

    public int found(int ask, int i, int what) {
        Ask asking = askAt(ask);
        if (asking == null) {
            return UNKNOWN;
        }
        if (!within(what, 0, 2)) {
            return OUTSIDE;
        }
        Answer x = foundAt(asking, i);
        if (x == null) {
            return NONE;
        }
        return what == 0 ? x.number : what == 1 ? costOf(asking.folded, asking, x) : questionOf(asking, x);
    }

    public int cost(int ask, int a) {
        Ask asking = askAt(ask);
        Answer x = answerAt(a);
        if (asking == null || x == null) {
            return UNKNOWN;
        }
        return isFit(asking, x) ? costOf(asking.folded, asking, x) : NOT;
    }

    public int asked(int ask, int what) {
        Ask asking = askAt(ask);
        if (asking == null) {
            return UNKNOWN;
        }
        switch (what) {
            case 0:
                return findsSome(asking.folded, asking) ? 0 : 1;
            case 1:
                return heapOf(ask, asksInVain());
            case 2:
                return findsSome(asking.folded, asking) ? NONE : helpFor(asking);
            case 3:
                return foundCount(asking);
            default:
                return OUTSIDE;
        }
    }

    // ---- what there is, and what is in its bounds

    private Answer answerAt(int a) {
        return a >= 0 && a < answerCount && a < answers.length ? answers[a] : null;
    }

    private Ask askAt(int k) {
        return k >= 0 && k < askCount && k < asks.length ? asks[k] : null;
    }

    private boolean isAnswer(int a) {
        return a >= 0 && a < answerCount;
    }

    private static boolean within(int v, int least, int most) {
        return v >= least && v <= most;
    }

    private static boolean isWord(int w) {
        return within(w, 0, WORD_COUNT - 1);
    }

    private static boolean isSetOfWords(long set) {
        return set >= 0 && set < 1L << WORD_COUNT;
    }

    private static int allValues(int aspect) {
        return aspect >= 0 && aspect < ALL_VALUES.length ? ALL_VALUES[aspect] : 0;
    }

    private static boolean isSetOfValues(int aspect, int set) {
        return set > 0 && set <= allValues(aspect);
    }

    private static boolean isValue(int aspect, int value) {
        return (allValues(aspect) & bit(value)) != 0;
    }

    private static boolean isValueOrNone(int aspect, int value) {
        return value == NONE || isValue(aspect, value);
    }

    /** The SET of one number; empty for a number that no SET has, NONE among them (a shift would wrap around). */
    private static int bit(int number) {
        return number >= 0 && number <= 30 ? 1 << number : 0;
    }

    private static int least(int set) {
        for (int k = 0; k <= 30; k++) {
            if ((set & bit(k)) != 0) {
                return k;
            }
        }
        return NONE;
    }

    private static int far(long folded, long other) {
        return Long.bitCount(folded ^ other);
    }

    // ---- answers that are joined, moved, melted

    private void keep(Answer x) {
        if (answerCount < answers.length) {
            answers[answerCount] = x;
            answerCount++;
        }
        settle();
    }

    private Answer endOf(int a) {
        Answer x = answerAt(a);
        return x == null ? null : answerAt(x.end);
    }

    /** The END of each ANSWER is kept, not the one it leads on to: so no chain has to be walked. */
    private void leadOn(int a, int to) {
        for (int b = 0; b < answerCount; b++) {
            Answer x = answerAt(b);
            if (x != null && x.end == a) {
                x.end = to;
            }
        }
    }

    private int partNow(Answer x, int i) {
        Answer part = endOf(x.partAt(i));
        return part == null ? NONE : part.number;
    }

    private boolean areAllPlain(int set) {
        for (int a = 0; a < answerCount; a++) {
            Answer x = answerAt(a);
            if (x != null && (set & bit(a)) != 0 && x.kindNow() != PLAIN) {
                return false;
            }
        }
        return true;
    }

    private static boolean mayMelt(Answer into, Answer from) {
        return into.kindNow() == PLAIN && from.kindNow() == PLAIN && into.steps == from.steps
                && (likeSets(into, from) >= 2 || isInside(from, into) || isInside(into, from));
    }

    private static int likeSets(Answer x, Answer y) {
        int like = 0;
        for (int aspect = 0; aspect < ASPECTS; aspect++) {
            if (x.setOf(aspect) == y.setOf(aspect)) {
                like++;
            }
        }
        return like;
    }

    private static boolean isInside(Answer inner, Answer outer) {
        for (int aspect = 0; aspect < ASPECTS; aspect++) {
            if ((inner.setOf(aspect) & ~outer.setOf(aspect)) != 0) {
                return false;
            }
        }
        return true;
    }

    // ---- what follows from the rest

    private void settle() {
        for (int a = 0; a < answerCount; a++) {
            settlePlain(answerAt(a));
        }
        settleUnder();
        for (int a = 0; a < answerCount; a++) {
            settleJoined(answerAt(a));
        }
        for (int k = 0; k < askCount; k++) {
            Ask asking = askAt(k);
            if (asking != null) {
                asking.folded = book.folded(asking.words);
            }
        }
    }

    private void settlePlain(Answer x) {
        if (x == null || x.kind != PLAIN) {
            return;
        }
        x.doubted = things.isChangedSince(x.things, x.sure);
        x.folded = book.folded(x.words);
    }

    /** A part may lead on to any number, so one pass is not enough; a way down is no longer than there are ANSWERS. */
    private void settleUnder() {
        for (int a = 0; a < answerCount; a++) {
            Answer x = answerAt(a);
            if (x != null) {
                x.under = 0;
            }
        }
        for (int round = 0; round < MOST_ANSWERS; round++) {
            boolean wider = false;
            for (int a = 0; a < answerCount; a++) {
                if (widenUnder(answerAt(a))) {
                    wider = true;
                }
            }
            if (!wider) {
                break;
            }
        }
    }

    private boolean widenUnder(Answer x) {
        if (x == null) {
            return false;
        }
        int was = x.under;
        for (int i = 0; i < MOST_PARTS; i++) {
            Answer part = endOf(x.partAt(i));
            if (part != null) {
                x.under |= bit(part.number) | part.under;
            }
        }
        return x.under != was;
    }

    /** Of what is under a JOINED one the PLAIN ones are enough: all else there is joined of them in turn. */
    private void settleJoined(Answer x) {
        if (x == null || x.kind != JOINED) {
            return;
        }
        x.clearGathered();
        for (int a = 0; a < answerCount; a++) {
            Answer part = answerAt(a);
            if (part != null && part.kind == PLAIN && (x.under & bit(a)) != 0) {
                x.gather(part);
            }
        }
        x.folded = book.folded(x.words);
    }

    // ---- counts and quarrels

    private int kindCount(int kind) {
        int count = 0;
        for (int a = 0; a < answerCount; a++) {
            Answer x = answerAt(a);
            if (x != null && x.kindNow() == kind) {
                count++;
            }
        }
        return count;
    }

    private int doubtedCount() {
        int count = 0;
        for (int a = 0; a < answerCount; a++) {
            Answer x = answerAt(a);
            if (x != null && x.isDoubted()) {
                count++;
            }
        }
        return count;
    }

    private int quarrelCount() {
        int count = 0;
        for (int a = 0; a < answerCount; a++) {
            for (int b = a + 1; b < answerCount; b++) {
                if (areQuarrelling(answerAt(a), answerAt(b))) {
                    count++;
                }
            }
        }
        return count;
    }

    private boolean areQuarrelling(Answer x, Answer y) {
        if (x == null || y == null || x.kindNow() != PLAIN || y.kindNow() != PLAIN || x.steps == y.steps) {
            return false;
        }
        for (int aspect = 0; aspect < ASPECTS; aspect++) {
            if ((x.setOf(aspect) & y.setOf(aspect)) == 0) {
                return false;
            }
        }
        return far(x.folded, y.folded) <= near;
    }

    private int quarrelPart(int a, int b, int what) {
        Answer x = answerAt(a);
        Answer y = answerAt(b);
        if (x == null || y == null) {
            return NONE;
        }
        return what == 0 ? a : what == 1 ? b : least(x.setOf(what - 2) & y.setOf(what - 2));
    }

    // ---- what asks find

    private static boolean isFit(Ask asking, Answer x) {
        if (x.isMoved()) {
            return false;
        }
        for (int aspect = 0; aspect < ASPECTS; aspect++) {
            int value = asking.valueFor(aspect);
            if (x.setOf(aspect) == 0 || value != NONE && !x.hasValue(aspect, value)) {
                return false;
            }
        }
        return true;
    }

    private static int questionOf(Ask asking, Answer x) {
        for (int aspect = 0; aspect < ASPECTS; aspect++) {
            if (asking.valueFor(aspect) == NONE && x.setOf(aspect) != allValues(aspect)) {
                return aspect;
            }
        }
        return NONE;
    }

    /** The FOLDED WORDS come apart from the ASK: for THE HELP they are other ones than its own. */
    private static int costOf(long folded, Ask asking, Answer x) {
        int missing = Long.bitCount(folded & ~x.folded);
        int spare = Long.bitCount(x.folded & ~folded);
        int doubt = x.isDoubted() ? FOR_DOUBT : 0;
        int question = questionOf(asking, x) == NONE ? 0 : FOR_QUESTION;
        int votes = Math.max(-MOST_VOTES, Math.min(MOST_VOTES, x.votes));
        return PER_MISSING * missing + PER_SPARE * spare + doubt + question - votes;
    }

    private boolean isFound(long folded, Ask asking, Answer x) {
        return x != null && isFit(asking, x) && costOf(folded, asking, x) <= limit;
    }

    private boolean findsSome(long folded, Ask asking) {
        for (int a = 0; a < answerCount; a++) {
            if (isFound(folded, asking, answerAt(a))) {
                return true;
            }
        }
        return false;
    }

    private int foundCount(Ask asking) {
        int count = 0;
        for (int a = 0; a < answerCount; a++) {
            if (isFound(asking.folded, asking, answerAt(a))) {
                count++;
            }
        }
        return count;
    }

    private Answer foundAt(Ask asking, int i) {
        for (int a = 0; a < answerCount; a++) {
            Answer x = answerAt(a);
            if (x != null && isFound(asking.folded, asking, x) && betterCount(asking, x) == i) {
                return x;
            }
        }
        return null;
    }

    private int betterCount(Ask asking, Answer x) {
        int own = costOf(asking.folded, asking, x);
        int count = 0;
        for (int b = 0; b < answerCount; b++) {
            Answer y = answerAt(b);
            if (y != null && isFound(asking.folded, asking, y)) {
                int other = costOf(asking.folded, asking, y);
                if (other < own || other == own && y.number < x.number) {
                    count++;
                }
            }
        }
        return count;
    }

    // ---- asks in vain

    private int helpFor(Ask asking) {
        for (int w = 0; w < WORD_COUNT; w++) {
            if (findsSome(book.folded(asking.words | 1L << w), asking)) {
                return w;
            }
        }
        return NONE;
    }

    private int asksInVain() {
        int vain = 0;
        for (int k = 0; k < askCount; k++) {
            Ask asking = askAt(k);
            if (asking != null && !findsSome(asking.folded, asking)) {
                vain |= bit(k);
            }
        }
        return vain;
    }

    private int heapCount(int vain) {
        int left = vain;
        int heaps = 0;
        for (int k = 0; k < askCount; k++) {
            if ((left & bit(k)) != 0) {
                left &= ~heapFrom(k, vain);
                heaps++;
            }
        }
        return heaps;
    }

    private int heapOf(int ask, int vain) {
        int left = vain;
        int heaps = 0;
        for (int k = 0; k < askCount; k++) {
            if ((left & bit(k)) != 0) {
                int heap = heapFrom(k, vain);
                if ((heap & bit(ask)) != 0) {
                    return heaps;
                }
                left &= ~heap;
                heaps++;
            }
        }
        return NONE;
    }

    /** Each round but the last takes one ASK at least, so there are no more rounds than ASKS. */
    private int heapFrom(int first, int vain) {
        int heap = bit(first);
        for (int round = 0; round < MOST_ASKS; round++) {
            int was = heap;
            for (int k = 0; k < askCount; k++) {
                if ((vain & ~heap & bit(k)) != 0 && isNearOne(askAt(k), heap)) {
                    heap |= bit(k);
                }
            }
            if (heap == was) {
                break;
            }
        }
        return heap;
    }

    private boolean isNearOne(Ask asking, int heap) {
        for (int k = 0; asking != null && k < askCount; k++) {
            Ask other = askAt(k);
            if (other != null && (heap & bit(k)) != 0 && far(asking.folded, other.folded) <= near) {
                return true;
            }
        }
        return false;
    }

    /** THE BOOK. */
    private static final class Book {
        final int[] folds = new int[WORD_COUNT];

        Book() {
            for (int w = 0; w < folds.length; w++) {
                folds[w] = w;
            }
        }

        int foldOf(int w) {
            return w >= 0 && w < folds.length ? folds[w] : NONE;
        }

        void turn(int w, int to) {
            if (w >= 0 && w < folds.length) {
                folds[w] = to;
            }
        }

        long folded(long set) {
            long result = 0;
            for (int w = 0; w < folds.length; w++) {
                if ((set & 1L << w) != 0) {
                    result |= 1L << folds[w];
                }
            }
            return result;
        }
    }

    /** THINGS with their STATES; the clock counts all changes, so that changes and confirmings have an order. */
    private static final class Things {
        final int[] states = new int[THING_COUNT];
        final int[] changedAt = new int[THING_COUNT];
        int clock = 0;

        int now() {
            return clock;
        }

        int change(int thing) {
            if (thing < 0 || thing >= states.length || thing >= changedAt.length) {
                return UNKNOWN;
            }
            clock++;
            changedAt[thing] = clock;
            states[thing]++;
            return states[thing];
        }

        boolean isChangedSince(int set, int time) {
            for (int thing = 0; thing < changedAt.length; thing++) {
                if ((set & bit(thing)) != 0 && changedAt[thing] > time) {
                    return true;
                }
            }
            return false;
        }
    }

    /** An ANSWER as it came; that it is MOVED is told by its end alone, so what it was stays with it. */
    private static final class Answer {
        final int number;
        final int kind;
        final int steps;
        final int[] sets = new int[ASPECTS];
        final int[] parts = new int[MOST_PARTS];
        long words = 0;
        int things = 0;
        int sure = 0;
        int votes = 0;
        int end;
        long folded = 0;
        boolean doubted = false;
        int under = 0;

        Answer(int number, int kind, int steps) {
            this.number = number;
            this.kind = kind;
            this.steps = steps;
            this.end = number;
            for (int i = 0; i < parts.length; i++) {
                parts[i] = NONE;
            }
        }

        boolean isMoved() {
            return end != number;
        }

        int kindNow() {
            return isMoved() ? MOVED : kind;
        }

        boolean isDoubted() {
            return doubted && !isMoved();
        }

        int setOf(int aspect) {
            return aspect >= 0 && aspect < sets.length ? sets[aspect] : 0;
        }

        boolean hasValue(int aspect, int value) {
            return (setOf(aspect) & bit(value)) != 0;
        }

        int partAt(int i) {
            return i >= 0 && i < parts.length ? parts[i] : NONE;
        }

        int partCount() {
            int count = 0;
            for (int i = 0; i < parts.length; i++) {
                if (parts[i] != NONE) {
                    count++;
                }
            }
            return count;
        }

        void putSets(int products, int editions, int roles) {
            for (int aspect = 0; aspect < sets.length; aspect++) {
                sets[aspect] = aspect == 0 ? products : aspect == 1 ? editions : roles;
            }
        }

        void putParts(int a, int b, int c, int d) {
            for (int i = 0; i < parts.length; i++) {
                parts[i] = i == 0 ? a : i == 1 ? b : i == 2 ? c : d;
            }
        }

        void takeAllOf(Answer other) {
            words |= other.words;
            for (int aspect = 0; aspect < sets.length; aspect++) {
                sets[aspect] |= other.setOf(aspect);
            }
            things |= other.things;
            sure = Math.min(sure, other.sure);
            votes += other.votes;
        }

        void clearGathered() {
            words = 0;
            for (int aspect = 0; aspect < sets.length; aspect++) {
                sets[aspect] = allValues(aspect);
            }
            things = 0;
            doubted = false;
        }

        void gather(Answer part) {
            words |= part.words;
            for (int aspect = 0; aspect < sets.length; aspect++) {
                sets[aspect] &= part.setOf(aspect);
            }
            things |= part.things;
            doubted = doubted || part.doubted;
        }
    }

    /** An ASK as it came; a VALUE that is not told is NONE. */
    private static final class Ask {
        final long words;
        final int[] values = new int[ASPECTS];
        long folded = 0;

        Ask(long words, int product, int edition, int role) {
            this.words = words;
            for (int aspect = 0; aspect < values.length; aspect++) {
                values[aspect] = aspect == 0 ? product : aspect == 1 ? edition : role;
            }
        }

        int valueFor(int aspect) {
            return aspect >= 0 && aspect < values.length ? values[aspect] : NONE;
        }
    }
}
