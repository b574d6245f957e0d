/** What the tests of the document's sentences have in common. */
abstract class Edges {
    static final int NONE = -1, UNKNOWN = -1001, OUTSIDE = -1002, NOT = -1003, FULL = -1004;
    static final int LEAST = Integer.MIN_VALUE, MOST = Integer.MAX_VALUE;
    static final long ALL_WORDS = (1L << 40) - 1;
    static final int PRODUCTS = 255, EDITIONS = 1023, ROLES = 15;

    final Due due;
    final Quotes doc;

    Edges(Due due, Quotes doc) {
        this.due = due;
        this.doc = doc;
    }

    abstract void run();

    /** A plain answer that holds in every case. */
    static int everywhere(AnswerKeeper x, long words, int steps) {
        return x.answer(words, steps, PRODUCTS, EDITIONS, ROLES);
    }

    /** An ask of which nothing is told but its words. */
    static int askOpen(AnswerKeeper x, long words) {
        return x.ask(words, NONE, NONE, NONE);
    }

    /** Plain answers that hold in every case, each with a word of its own, all with unlike steps. */
    static AnswerKeeper withAnswers(int count) {
        AnswerKeeper x = new AnswerKeeper();
        for (int a = 0; a < count; a++) {
            everywhere(x, 1L << a, a);
        }
        return x;
    }

    static long firstWords(int count) {
        return (1L << count) - 1;
    }
}
