import java.util.ArrayList;
import java.util.List;
import java.util.function.Supplier;

/**
 * All that an object tells, and what its later answers hang on (the book, states, since when answers are sure). It
 * is told by objects made anew for each part, so that none gets more than 512 calls, and none is spoiled by a call
 * that has to change it to make it tell.
 */
final class Whole {
    private Whole() {
    }

    static List<Long> of(Supplier<AnswerKeeper> maker) {
        List<Long> all = new ArrayList<>();
        rulesAndBook(maker.get(), all);
        for (int a = 0; a < 24; a += 12) {
            answers(maker.get(), a, a + 12, all);
        }
        quarrels(maker.get(), all);
        for (int k = 0; k < 30; k += 10) {
            asks(maker.get(), k, k + 10, all);
            costs(maker.get(), k, k + 10, all);
        }
        for (int thing = 0; thing < 10; thing++) {
            sureSince(maker.get(), thing, all);
        }
        return all;
    }

    private static void rulesAndBook(AnswerKeeper x, List<Long> all) {
        for (int what = 0; what <= 8; what++) {
            all.add((long) x.count(what));
        }
        all.add((long) x.rule(0, 0));
        all.add((long) x.rule(1, 0));
        for (int w = 0; w < 40; w++) {
            all.add((long) x.fold(w, w));
        }
        for (int thing = 0; thing < 10; thing++) {
            all.add((long) x.changed(thing));
        }
    }

    private static void answers(AnswerKeeper x, int from, int to, List<Long> all) {
        for (int a = from; a < to; a++) {
            all.add(x.words(a));
            for (int what = 0; what <= 13; what++) {
                all.add((long) x.told(a, what));
            }
        }
    }

    private static void quarrels(AnswerKeeper x, List<Long> all) {
        for (int i = 0; i < 20; i++) {
            for (int what = 0; what <= 4; what++) {
                all.add((long) x.quarrel(i, what));
            }
        }
    }

    private static void asks(AnswerKeeper x, int from, int to, List<Long> all) {
        for (int k = from; k < to; k++) {
            for (int what = 0; what <= 3; what++) {
                all.add((long) x.asked(k, what));
            }
            for (int i = 0; i < 4; i++) {
                for (int what = 0; what <= 2; what++) {
                    all.add((long) x.found(k, i, what));
                }
            }
        }
    }

    private static void costs(AnswerKeeper x, int from, int to, List<Long> all) {
        for (int k = from; k < to; k++) {
            for (int a = 0; a < 24; a++) {
                all.add((long) x.cost(k, a));
            }
        }
    }

    /** Bound to the one thing alone, an answer tells whether that one has changed since the answer was sure. */
    private static void sureSince(AnswerKeeper x, int thing, List<Long> all) {
        for (int a = 0; a < 24; a++) {
            x.bind(a, 1 << thing);
            all.add((long) x.told(a, 7));
        }
    }
}
