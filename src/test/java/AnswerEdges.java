/** Sentences on plain answers: cases, things, doubts, votes, and what is told and counted of them. */
final class AnswerEdges extends Edges {
    AnswerEdges(Due due, Quotes doc) {
        super(due, doc);
    }

    @Override
    void run() {
        atMost();
        plain();
        noneEmpty();
        holdsInCase();
        bound();
        sureSince();
        doubted();
        votes();
        answer();
        answerRefused();
        bind();
        bindRefused();
        confirm();
        confirmRefused();
        vote();
        voteRefused();
        words();
        wordsRefused();
        holds();
        holdsRefused();
        count();
        countRefused();
    }

    private void atMost() {
        doc.says("Terms", "ANSWERS (24 at most).");
        AnswerKeeper x = withAnswers(23);
        due.is("23 of them", x.count(0), 23);
        due.is("the 24th", everywhere(x, 1, 1), 23);
        due.is("the 25th", everywhere(x, 1, 1), FULL);
        due.is("the 25th, a joined one", x.join(0, 1, NONE, NONE), FULL);
        due.is("24 of them", x.count(0), 24);
        x.move(0, 1);
        due.is("a moved one makes no room", everywhere(x, 1, 1), FULL);
        due.is("the 24th is there", x.words(23), 1);
        due.is("no 25th", x.words(24), UNKNOWN);
        AnswerKeeper y = withAnswers(23);
        due.is("a joined one as the 24th", y.join(0, 1, NONE, NONE), 23);
        due.is("the 25th, a joined one", y.join(0, 1, NONE, NONE), FULL);
        due.is("the 25th, a plain one", everywhere(y, 1, 1), FULL);
    }

    private void plain() {
        doc.says("Terms", "KINDS: 0 PLAIN: it has WORDS (a SET), STEPS (0 .. 9999), and for each of three ASPECTS the "
                + "SET of VALUES in which it holds: 0 PRODUCT (VALUES 0 .. 7), 1 EDITION (0 .. 9), 2 ROLE (0 .. 3);");
        AnswerKeeper x = new AnswerKeeper();
        due.is("the least of all", x.answer(0, 0, 1, 1, 1), 0);
        due.is("the most of all", x.answer(ALL_WORDS, 9999, 255, 1023, 15), 1);
        due.is("the greatest value of each", x.answer(1L << 39, 1, 128, 512, 8), 2);
        due.is("steps -1", x.answer(0, -1, 1, 1, 1), OUTSIDE);
        due.is("steps 10000", x.answer(0, 10000, 1, 1, 1), OUTSIDE);
        due.is("product 8", x.answer(0, 0, 256, 1, 1), OUTSIDE);
        due.is("edition 10", x.answer(0, 0, 1, 1024, 1), OUTSIDE);
        due.is("role 4", x.answer(0, 0, 1, 1, 16), OUTSIDE);
        long[][] wants = {{0, 0, 0, 1, 1, 1}, {ALL_WORDS, 0, 9999, 255, 1023, 15}, {1L << 39, 0, 1, 128, 512, 8}};
        for (int a = 0; a < 3; a++) {
            due.is("words of " + a, x.words(a), wants[a][0]);
            due.is("kind of " + a, x.told(a, 0), wants[a][1]);
            for (int what = 2; what <= 5; what++) {
                due.is("told(" + a + ", " + what + ")", x.told(a, what), wants[a][what]);
            }
        }
    }

    private void noneEmpty() {
        doc.says("Terms", "none of these SETS is empty.");
        AnswerKeeper x = new AnswerKeeper();
        due.is("no product", x.answer(1, 1, 0, 1, 1), OUTSIDE);
        due.is("no edition", x.answer(1, 1, 1, 0, 1), OUTSIDE);
        due.is("no role", x.answer(1, 1, 1, 1, 0), OUTSIDE);
        due.is("none at all", x.answer(1, 1, 0, 0, 0), OUTSIDE);
        due.is("one of each", x.answer(1, 1, 1, 1, 1), 0);
        due.is("words may be none", x.answer(0, 1, 1, 1, 1), 1);
    }

    private void holdsInCase() {
        doc.says("Terms", "A CASE is a VALUE for each ASPECT; an ANSWER holds in it, if each is in its SET.");
        AnswerKeeper x = new AnswerKeeper();
        int products = 0b10010110;
        int editions = 0b1000100101;
        int roles = 0b1001;
        x.answer(1, 1, products, editions, roles);
        for (int p = 0; p < 8; p++) {
            for (int e = 0; e < 10; e++) {
                for (int r = 0; r < 4; r++) {
                    int want = products >> p & editions >> e & roles >> r & 1;
                    due.is("holds(0, " + p + ", " + e + ", " + r + ")", x.holds(0, p, e, r), want);
                }
            }
        }
    }

    private void bound() {
        doc.says("Terms", "A PLAIN ANSWER is BOUND to a SET of THINGS;");
        AnswerKeeper x = withAnswers(2);
        due.is("to none at first", x.told(0, 6), 0);
        x.bind(0, 1023);
        due.is("to all", x.told(0, 6), 1023);
        due.is("each its own", x.told(1, 6), 0);
        for (int thing = 0; thing < 10; thing++) {
            x.changed(thing);
            due.is("bound to all, " + thing + " among them", x.confirm(0), 1);
            due.is("bound to none", x.told(1, 7), 0);
        }
        x.bind(0, 0);
        x.changed(0);
        due.is("to none again", x.told(0, 7), 0);
    }

    private void sureSince() {
        doc.says("Terms", "it is SURE since it came or was confirmed the latest time, and");
        AnswerKeeper x = new AnswerKeeper();
        x.changed(0);
        everywhere(x, 1, 1);
        x.bind(0, 3);
        due.is("a change ahead of it", x.told(0, 7), 0);
        x.changed(1);
        due.is("a change since it came", x.told(0, 7), 1);
        x.confirm(0);
        due.is("confirmed", x.told(0, 7), 0);
        x.changed(0);
        due.is("a change since it was confirmed", x.told(0, 7), 1);
        x.confirm(0);
        due.is("the latest time counts", x.told(0, 7), 0);
        x.bind(0, 4);
        x.confirm(0);
        x.changed(3);
        x.confirm(0);
        x.bind(0, 8);
        due.is("sure since it was confirmed, though it was not doubted then", x.told(0, 7), 0);
        x.changed(3);
        x.bind(0, 4);
        x.bind(0, 8);
        due.is("to be bound anew does not make it sure", x.told(0, 7), 1);
        x.vote(0, true);
        due.is("nor do votes", x.told(0, 7), 1);
    }

    private void doubted() {
        doc.says("Terms", "DOUBTED, if a THING to which it is BOUND (now) has changed since then, once or more.");
        AnswerKeeper x = withAnswers(1);
        x.bind(0, 1 | 1 << 9);
        x.changed(1);
        x.changed(8);
        due.is("other things have changed", x.told(0, 7), 0);
        x.changed(9);
        due.is("once", x.told(0, 7), 1);
        x.changed(9);
        due.is("twice", x.told(0, 7), 1);
        x.changed(0);
        due.is("both", x.told(0, 7), 1);
        x.bind(0, 4);
        due.is("bound to another one now", x.told(0, 7), 0);
        x.bind(0, 4 | 2);
        due.is("bound now to one that changed before that", x.told(0, 7), 1);
        x.confirm(0);
        x.bind(0, 1023);
        due.is("none has changed since", x.told(0, 7), 0);
        for (int n = 0; n < 256; n++) {
            x.changed(5);
        }
        due.is("256 times", x.told(0, 7), 1);
    }

    private void votes() {
        doc.says("Terms", "VOTES of an ANSWER: how often it was voted up, less how often down.");
        AnswerKeeper x = withAnswers(2);
        due.is("none at first", x.told(0, 8), 0);
        for (int n = 1; n <= 20; n++) {
            x.vote(0, true);
            x.vote(1, false);
        }
        due.is("20 up", x.told(0, 8), 20);
        due.is("20 down", x.told(1, 8), -20);
        for (int n = 1; n <= 21; n++) {
            x.vote(0, false);
            x.vote(1, true);
        }
        due.is("20 up, 21 down", x.told(0, 8), -1);
        due.is("20 down, 21 up", x.told(1, 8), 1);
    }

    private void answer() {
        doc.says("Promise 5", "A PLAIN ANSWER, BOUND to no THING: its number.");
        AnswerKeeper x = new AnswerKeeper();
        x.changed(0);
        for (int a = 0; a < 24; a++) {
            due.is("its number", x.answer(a, a, 1 + a, 100 + a, 1 + a % 15), a);
        }
        for (int a = 0; a < 24; a++) {
            int[] wants = {0, a, a, 1 + a, 100 + a, 1 + a % 15, 0, 0, 0, 0, NONE, NONE, NONE, NONE};
            for (int what = 0; what <= 13; what++) {
                due.is("told(" + a + ", " + what + ")", x.told(a, what), wants[what]);
            }
        }
        x.changed(0);
        due.is("none is doubted", x.count(4), 0);
    }

    private void answerRefused() {
        doc.says("Promise 5", "OUTSIDE (words 0 .. 2^40 - 1; SETS not empty), FULL.");
        AnswerKeeper x = new AnswerKeeper();
        long[] wrongWords = {-1, 1L << 40, (1L << 40) + 1, 1L << 41, 1L << 63, Long.MAX_VALUE, -(1L << 40)};
        for (long words : wrongWords) {
            due.is("words " + words, everywhere(x, words, 1), OUTSIDE);
        }
        int[] wrongSteps = {-1, 10000, 65536, LEAST, MOST};
        for (int steps : wrongSteps) {
            due.is("steps " + steps, everywhere(x, 1, steps), OUTSIDE);
        }
        int[] wrongSets = {0, -1, 1024, 2048, 65536, LEAST, MOST};
        for (int set : wrongSets) {
            due.is("products " + set, x.answer(1, 1, set, 1, 1), OUTSIDE);
            due.is("editions " + set, x.answer(1, 1, 1, set, 1), OUTSIDE);
            due.is("roles " + set, x.answer(1, 1, 1, 1, set), OUTSIDE);
        }
        due.is("products 256", x.answer(1, 1, 256, 1, 1), OUTSIDE);
        due.is("products 257", x.answer(1, 1, 257, 1, 1), OUTSIDE);
        due.is("roles 16", x.answer(1, 1, 1, 1, 16), OUTSIDE);
        due.is("roles 17", x.answer(1, 1, 1, 1, 17), OUTSIDE);
        due.is("words 0, steps 0, least sets", x.answer(0, 0, 1, 1, 1), 0);
        due.is("words 2^40 - 1, steps 9999, all values", everywhere(x, ALL_WORDS, 9999), 1);
        due.is("words 2^32", everywhere(x, 1L << 32, 1), 2);
        due.is("words 2^31", everywhere(x, 1L << 31, 1), 3);
        for (int a = 4; a < 24; a++) {
            due.is("room for 24", everywhere(x, 1, 1), a);
        }
        due.is("FULL", everywhere(x, 1, 1), FULL);
        due.is("OUTSIDE ahead of FULL: words", everywhere(x, -1, 1), OUTSIDE);
        due.is("OUTSIDE ahead of FULL: steps", everywhere(x, 1, 10000), OUTSIDE);
        due.is("OUTSIDE ahead of FULL: products", x.answer(1, 1, 0, 1, 1), OUTSIDE);
        due.is("OUTSIDE ahead of FULL: editions", x.answer(1, 1, 1, 0, 1), OUTSIDE);
        due.is("OUTSIDE ahead of FULL: roles", x.answer(1, 1, 1, 1, 0), OUTSIDE);
    }

    private void bind() {
        doc.says("Promise 7", "An ANSWER is BOUND to a SET of THINGS: the SET ahead of that.");
        AnswerKeeper x = withAnswers(24);
        due.is("none ahead of that", x.bind(0, 1023), 0);
        due.is("all ahead of that", x.bind(0, 1), 1023);
        due.is("it takes the place of the one before", x.told(0, 6), 1);
        due.is("the same again", x.bind(0, 1), 1);
        due.is("to none", x.bind(0, 0), 1);
        due.is("none again", x.bind(0, 512), 0);
        due.is("the last answer", x.bind(23, 2), 0);
        due.is("the last answer", x.bind(23, 4), 2);
        due.is("the first as it was", x.told(0, 6), 512);
    }

    private void bindRefused() {
        doc.says("Promise 7", "UNKNOWN, OUTSIDE; NOT: it is not PLAIN.");
        AnswerKeeper x = withAnswers(4);
        x.join(0, 1, NONE, NONE);
        x.join(0, 1, NONE, NONE);
        x.move(3, 2);
        x.move(5, 2);
        due.is("no answer", x.bind(6, 1), UNKNOWN);
        due.is("no answer", x.bind(-1, 1), UNKNOWN);
        due.is("UNKNOWN ahead of OUTSIDE", x.bind(6, 1024), UNKNOWN);
        due.is("UNKNOWN ahead of OUTSIDE", x.bind(-1, -1), UNKNOWN);
        int[] wrong = {-1, 1024, 1025, 2048, LEAST, MOST};
        for (int things : wrong) {
            due.is("things " + things, x.bind(0, things), OUTSIDE);
            due.is("OUTSIDE ahead of NOT, joined", x.bind(4, things), OUTSIDE);
            due.is("OUTSIDE ahead of NOT, moved", x.bind(3, things), OUTSIDE);
        }
        int[] right = {0, 1, 1023};
        for (int things : right) {
            due.is("joined", x.bind(4, things), NOT);
            due.is("moved", x.bind(3, things), NOT);
            due.is("joined and moved", x.bind(5, things), NOT);
        }
        due.is("a plain one, not bound by all these", x.bind(0, 1), 0);
        due.is("the moved one as it was", x.told(3, 6), 0);
    }

    private void confirm() {
        doc.says("Promise 8", "An ANSWER is confirmed (SURE from now on): 1 if it was DOUBTED, 0.");
        AnswerKeeper x = withAnswers(24);
        x.bind(0, 1);
        x.bind(23, 1);
        due.is("it was not doubted", x.confirm(0), 0);
        x.changed(0);
        due.is("it was doubted", x.confirm(0), 1);
        due.is("it is sure now", x.told(0, 7), 0);
        due.is("it was sure", x.confirm(0), 0);
        due.is("the other one is doubted still", x.told(23, 7), 1);
        due.is("the last one", x.confirm(23), 1);
        x.changed(0);
        due.is("from now on, until the next change", x.told(0, 7), 1);
        x.bind(0, 0);
        due.is("bound to none it is not doubted", x.confirm(0), 0);
        x.bind(0, 1);
        due.is("but sure from then on", x.told(0, 7), 0);
    }

    private void confirmRefused() {
        doc.says("Promise 8", "UNKNOWN; NOT: it is not PLAIN.");
        AnswerKeeper x = withAnswers(4);
        x.join(0, 1, NONE, NONE);
        x.join(0, 1, NONE, NONE);
        x.bind(0, 1);
        x.bind(3, 1);
        x.changed(0);
        x.move(3, 0);
        x.move(5, 0);
        int[] none = {-1, 6, 23, 24, 32, LEAST, MOST};
        for (int a : none) {
            due.is("no answer " + a, x.confirm(a), UNKNOWN);
        }
        due.is("joined", x.confirm(4), NOT);
        due.is("moved", x.confirm(3), NOT);
        due.is("joined and moved", x.confirm(5), NOT);
        due.is("the part is doubted still", x.told(0, 7), 1);
        due.is("joined, doubted still", x.told(4, 7), 1);
        due.is("a plain one", x.confirm(0), 1);
    }

    private void vote() {
        doc.says("Promise 11", "A vote up, or down: VOTES then.");
        AnswerKeeper x = withAnswers(2);
        x.join(0, 1, NONE, NONE);
        int[] votes = {1, 2, 1, 0, -1, -2, -1, 0};
        boolean[] ups = {true, true, false, false, false, false, true, true};
        for (int n = 0; n < votes.length; n++) {
            due.is("plain, vote " + n, x.vote(0, ups[n]), votes[n]);
            due.is("plain, told " + n, x.told(0, 8), votes[n]);
            due.is("joined, vote " + n, x.vote(2, ups[n]), votes[n]);
        }
        due.is("nobody voted for the other part", x.told(1, 8), 0);
        for (int n = 1; n <= 100; n++) {
            due.is("no greatest number", x.vote(0, true), n);
            due.is("no least number", x.vote(2, false), -n);
        }
    }

    private void voteRefused() {
        doc.says("Promise 11", "UNKNOWN; NOT: it is MOVED.");
        AnswerKeeper x = withAnswers(4);
        x.join(0, 1, NONE, NONE);
        x.vote(3, true);
        x.move(3, 0);
        x.move(4, 0);
        int[] none = {-1, 5, 24, 32, LEAST, MOST};
        for (int a : none) {
            due.is("no answer " + a, x.vote(a, true), UNKNOWN);
        }
        due.is("moved, up", x.vote(3, true), NOT);
        due.is("moved, down", x.vote(3, false), NOT);
        due.is("joined and moved", x.vote(4, true), NOT);
        due.is("as it was", x.told(3, 8), 1);
        due.is("as it was", x.told(4, 8), 0);
        due.is("its end has no vote of these", x.told(0, 8), 0);
    }

    private void words() {
        doc.says("Promise 13", "WORDS of an ANSWER, as told, not FOLDED (of a JOINED one all of its PARTS'; of a MOVED "
                + "one as if it were not).");
        AnswerKeeper x = new AnswerKeeper();
        everywhere(x, 0, 1);
        everywhere(x, ALL_WORDS, 2);
        everywhere(x, 1L << 39, 3);
        everywhere(x, 3L << 20, 4);
        x.join(0, 2, NONE, NONE);
        x.join(3, 2, 0, NONE);
        for (int w = 0; w < 40; w++) {
            x.fold(w, 7);
        }
        due.is("none", x.words(0), 0);
        due.is("all", x.words(1), ALL_WORDS);
        due.is("the greatest", x.words(2), 1L << 39);
        due.is("joined", x.words(4), 1L << 39);
        due.is("joined of three", x.words(5), 1L << 39 | 3L << 20);
        x.move(2, 0);
        due.is("moved", x.words(2), 1L << 39);
        due.is("joined, of the end", x.words(4), 0);
        due.is("joined, of the end", x.words(5), 3L << 20);
        x.move(5, 1);
        due.is("joined and moved", x.words(5), 3L << 20);
        due.is("one that comes after the book was changed", everywhere(x, 0b11, 5), 6);
        due.is("not folded either", x.words(6), 0b11);
    }

    private void wordsRefused() {
        doc.says("Promise 13", "UNKNOWN.");
        AnswerKeeper x = withAnswers(24);
        int[] none = {-1, 24, 32, LEAST, MOST};
        for (int a : none) {
            due.is("no answer " + a, x.words(a), UNKNOWN);
        }
        due.is("the last one", x.words(23), 1L << 23);
        due.is("the first one", x.words(0), 1);
        due.is("none at all", new AnswerKeeper().words(0), UNKNOWN);
    }

    private void holds() {
        doc.says("Promise 14", "Whether an ANSWER holds in a CASE, not MOVED: 1, 0.");
        AnswerKeeper x = new AnswerKeeper();
        x.answer(1, 1, 1, 1, 1);
        x.answer(1, 1, 128, 512, 8);
        x.answer(1, 1, 129, 513, 9);
        x.join(0, 2, NONE, NONE);
        x.join(0, 1, NONE, NONE);
        due.is("the least values", x.holds(0, 0, 0, 0), 1);
        due.is("another product", x.holds(0, 1, 0, 0), 0);
        due.is("another edition", x.holds(0, 0, 1, 0), 0);
        due.is("another role", x.holds(0, 0, 0, 1), 0);
        due.is("the greatest values", x.holds(1, 7, 9, 3), 1);
        due.is("joined", x.holds(3, 0, 0, 0), 1);
        due.is("joined, one part does not", x.holds(3, 7, 9, 3), 0);
        due.is("joined, with empty sets", x.holds(4, 0, 0, 0), 0);
        x.move(0, 2);
        due.is("moved", x.holds(0, 0, 0, 0), 0);
        due.is("joined, of the end", x.holds(3, 7, 9, 3), 1);
        x.move(3, 1);
        due.is("joined and moved", x.holds(3, 7, 9, 3), 0);
        due.is("its end", x.holds(1, 7, 9, 3), 1);
    }

    private void holdsRefused() {
        doc.says("Promise 14", "UNKNOWN, OUTSIDE.");
        AnswerKeeper x = withAnswers(3);
        x.move(2, 0);
        x.join(0, 1, NONE, NONE);
        int[] none = {-1, 4, 24, 32, LEAST, MOST};
        for (int a : none) {
            due.is("no answer " + a, x.holds(a, 0, 0, 0), UNKNOWN);
            due.is("UNKNOWN ahead of OUTSIDE", x.holds(a, 8, 10, 4), UNKNOWN);
        }
        int[] wrong = {-1, -2, 10, 16, 31, 32, 64, 256, LEAST, MOST};
        for (int a = 0; a < 4; a++) {
            for (int v : wrong) {
                due.is("product " + v, x.holds(a, v, 0, 0), OUTSIDE);
                due.is("edition " + v, x.holds(a, 0, v, 0), OUTSIDE);
                due.is("role " + v, x.holds(a, 0, 0, v), OUTSIDE);
            }
            due.is("product 8", x.holds(a, 8, 9, 3), OUTSIDE);
            due.is("edition 10", x.holds(a, 7, 10, 3), OUTSIDE);
            due.is("role 4", x.holds(a, 7, 9, 4), OUTSIDE);
            due.is("7, 9, 3", x.holds(a, 7, 9, 3), a == 2 ? 0 : 1);
            due.is("0, 0, 0", x.holds(a, 0, 0, 0), a == 2 ? 0 : 1);
        }
    }

    private void count() {
        doc.says("Promise 15", "How many: 0 ANSWERS, 1 PLAIN, 2 JOINED, 3 MOVED, 4 DOUBTED, 5 pairs that QUARREL, "
                + "6 ASKS, 7 IN VAIN, 8 HEAPS.");
        AnswerKeeper x = new AnswerKeeper();
        counts(x, "empty", 0, 0, 0, 0, 0, 0, 0, 0, 0);
        for (int a = 0; a < 24; a++) {
            everywhere(x, 0, a);
        }
        counts(x, "all quarrel", 24, 24, 0, 0, 0, 276, 0, 0, 0);
        for (int k = 0; k < 30; k++) {
            askOpen(x, 7);
        }
        counts(x, "all in vain", 24, 24, 0, 0, 0, 276, 30, 30, 1);
        x.rule(1, 30);
        counts(x, "none in vain", 24, 24, 0, 0, 0, 276, 30, 0, 0);
        for (int a = 0; a < 24; a++) {
            x.bind(a, 512);
        }
        x.changed(9);
        counts(x, "all doubted", 24, 24, 0, 0, 24, 276, 30, 30, 1);
        for (int a = 0; a < 23; a++) {
            x.move(a, a + 1);
        }
        counts(x, "all but one moved", 24, 1, 0, 23, 1, 0, 30, 30, 1);
        AnswerKeeper y = withAnswers(2);
        for (int a = 2; a < 24; a++) {
            y.join(0, 1, NONE, NONE);
        }
        y.bind(1, 1);
        y.changed(0);
        for (int k = 0; k < 30; k++) {
            y.ask(1, 0, 0, 0);
        }
        counts(y, "joined", 24, 2, 22, 0, 23, 1, 30, 0, 0);
        y.move(2, 0);
        y.move(3, 2);
        y.move(1, 0);
        counts(y, "joined, moved, sure", 24, 1, 20, 3, 0, 0, 30, 0, 0);
    }

    private void counts(AnswerKeeper x, String name, int... wants) {
        for (int what = 0; what <= 8; what++) {
            due.is(name + ": count(" + what + ")", x.count(what), wants[what]);
        }
    }

    private void countRefused() {
        doc.says("Promise 15", "OUTSIDE.");
        AnswerKeeper x = withAnswers(2);
        int[] wrong = {-1, 9, 10, 16, 32, 256, LEAST, MOST};
        for (int what : wrong) {
            due.is("what " + what, x.count(what), OUTSIDE);
            due.is("what " + what + ", empty", new AnswerKeeper().count(what), OUTSIDE);
        }
        due.is("what 0", x.count(0), 2);
        due.is("what 8", x.count(8), 0);
    }
}
