/** Sentences on asks: fit answers, questions, costs, what is found, what is in vain, heaps, and the help. */
final class AskEdges extends Edges {
    AskEdges(Due due, Quotes doc) {
        super(due, doc);
    }

    @Override
    void run() {
        values();
        fit();
        question();
        costOfWords();
        costOfDoubt();
        costOfQuestion();
        costOfVotes();
        foundAtMostLimit();
        foundByCost();
        atMost();
        inVain();
        heaps();
        heapsFromOneToTheNext();
        heapNumbers();
        help();
        helpOfBook();
        ask();
        askRefused();
        found();
        foundRefused();
        cost();
        costRefused();
        costBelowZero();
        asked();
        askedRefused();
    }

    private void values() {
        doc.says("Terms", "AN ASK is a SET of WORDS and, for each ASPECT, a VALUE or NONE (not told).");
        AnswerKeeper x = new AnswerKeeper();
        x.answer(ALL_WORDS, 1, 1, 1, 1);
        x.answer(ALL_WORDS, 2, 128, 512, 8);
        int[][] asks = {{0, 0, 0, 1, 0}, {7, 9, 3, 0, 1}, {NONE, 0, 0, 1, 0}, {0, NONE, 0, 1, 0}, {0, 0, NONE, 1, 0},
            {NONE, 9, 3, 0, 1}, {7, NONE, 3, 0, 1}, {7, 9, NONE, 0, 1}, {NONE, NONE, NONE, 1, 1}, {0, 9, 0, 0, 0}};
        for (int k = 0; k < asks.length; k++) {
            int[] c = asks[k];
            due.is("an ask", x.ask(ALL_WORDS, c[0], c[1], c[2]), k);
            boolean open = c[0] == NONE || c[1] == NONE || c[2] == NONE;
            for (int a = 0; a < 2; a++) {
                due.is("ask " + k + " and answer " + a, x.cost(k, a), c[3 + a] == 0 ? NOT : open ? 5 : 0);
            }
        }
        due.is("no words", x.ask(0, NONE, NONE, NONE), asks.length);
        due.is("no words", x.cost(asks.length, 0), 3 * 40 + 5);
    }

    private void fit() {
        doc.says("Terms", "For an ANSWER that is not MOVED it is FIT, if each VALUE that is told is in its SET, and "
                + "none of its SETS is empty;");
        AnswerKeeper x = new AnswerKeeper();
        x.rule(1, 200);
        int[][] sets = {{1, EDITIONS, ROLES}, {254, EDITIONS, ROLES}, {PRODUCTS, 1, ROLES}, {PRODUCTS, 1022, ROLES},
            {PRODUCTS, EDITIONS, 1}, {PRODUCTS, EDITIONS, 14}, {PRODUCTS, EDITIONS, ROLES}};
        for (int a = 0; a < 7; a++) {
            x.answer(1, a, sets[a][0], sets[a][1], sets[a][2]);
        }
        for (int aspect = 0; aspect < 3; aspect++) {
            due.is("one set is empty", x.join(2 * aspect, 2 * aspect + 1, NONE, NONE), 7 + aspect);
            due.is("empty", x.told(7 + aspect, 3 + aspect), 0);
        }
        x.ask(1, 0, 0, 0);
        x.ask(1, 7, NONE, NONE);
        x.ask(1, NONE, 9, NONE);
        x.ask(1, NONE, NONE, 3);
        x.ask(1, NONE, NONE, NONE);
        int[][] fits = {{0, 2, 4, 6}, {1, 2, 3, 4, 5, 6}, {0, 1, 3, 4, 5, 6}, {0, 1, 2, 3, 5, 6}, {0, 1, 2, 3, 4, 5, 6}};
        for (int k = 0; k < 5; k++) {
            checkFit(x, k, fits[k]);
        }
        x.move(6, 0);
        x.move(5, 6);
        for (int k = 0; k < 5; k++) {
            due.is("moved", x.cost(k, 6), NOT);
            due.is("moved", x.cost(k, 5), NOT);
        }
        due.is("joined: a set is empty no more, as its part was moved", x.cost(4, 9), 5);
        due.is("moved ones are not found", x.asked(4, 3), 5 + 1);
    }

    private void checkFit(AnswerKeeper x, int k, int[] fits) {
        int at = 0;
        for (int a = 0; a < 10; a++) {
            boolean fit = at < fits.length && fits[at] == a;
            at += fit ? 1 : 0;
            due.is("ask " + k + ", answer " + a + " is fit", x.cost(k, a) != NOT ? 1 : 0, fit ? 1 : 0);
        }
        due.is("ask " + k + " finds them all", x.asked(k, 3), fits.length);
    }

    private void question() {
        doc.says("Terms", "its QUESTION is the least ASPECT that is not told, and of which its SET has not all VALUES; "
                + "NONE: there is none.");
        for (int open = 0; open < 8; open++) {
            for (int narrow = 0; narrow < 8; narrow++) {
                AnswerKeeper x = new AnswerKeeper();
                x.answer(1, 1, (narrow & 1) == 0 ? 255 : 127, (narrow & 2) == 0 ? 1023 : 511,
                        (narrow & 4) == 0 ? 15 : 7);
                x.ask(1, (open & 1) == 0 ? 0 : NONE, (open & 2) == 0 ? 0 : NONE, (open & 4) == 0 ? 0 : NONE);
                int both = open & narrow;
                int want = (both & 1) != 0 ? 0 : (both & 2) != 0 ? 1 : (both & 4) != 0 ? 2 : NONE;
                due.is("not told " + open + ", not all " + narrow, x.found(0, 0, 2), want);
            }
        }
        int[][] narrow = {{254, EDITIONS, ROLES, 0}, {1, EDITIONS, ROLES, 0}, {PRODUCTS, 1022, ROLES, 1},
            {PRODUCTS, 1, ROLES, 1}, {PRODUCTS, EDITIONS, 14, 2}, {PRODUCTS, EDITIONS, 1, 2},
            {PRODUCTS, EDITIONS, ROLES, NONE}};
        for (int[] n : narrow) {
            AnswerKeeper x = new AnswerKeeper();
            x.answer(1, 1, n[0], n[1], n[2]);
            askOpen(x, 1);
            due.is("a set that has not all: " + n[3], x.found(0, 0, 2), n[3]);
        }
    }

    private void costOfWords() {
        doc.says("Terms", "COST, with both SETS of WORDS FOLDED: 10 for each WORD of the ASK that the ANSWER has not, "
                + "3 for each of the ANSWER that the ASK has not,");
        AnswerKeeper x = new AnswerKeeper();
        long[] sets = {0, 1, 2, 3, 1L << 39, ALL_WORDS, 0b10110};
        for (long words : sets) {
            everywhere(x, words, 1);
            askOpen(x, words);
        }
        for (int k = 0; k < sets.length; k++) {
            for (int a = 0; a < sets.length; a++) {
                int want = 10 * Long.bitCount(sets[k] & ~sets[a]) + 3 * Long.bitCount(sets[a] & ~sets[k]);
                due.is("cost(" + k + ", " + a + ")", x.cost(k, a), want);
            }
        }
        due.is("40 words that the answer has not", x.cost(5, 0), 400);
        due.is("40 words that the ask has not", x.cost(0, 5), 120);
        x.fold(1, 4);
        x.fold(2, 4);
        due.is("the ask's words are folded", x.cost(6, 0), 10);
        due.is("the answer's words are folded", x.cost(0, 6), 3);
        due.is("both are folded", x.cost(2, 6), 0);
    }

    private void costOfDoubt() {
        doc.says("Terms", "15 if it is DOUBTED,");
        AnswerKeeper x = new AnswerKeeper();
        everywhere(x, 1, 1);
        everywhere(x, 2, 1);
        x.join(0, 1, NONE, NONE);
        askOpen(x, 3);
        x.bind(0, 3);
        x.bind(1, 1);
        due.is("sure", x.cost(0, 0), 10);
        x.changed(0);
        due.is("doubted", x.cost(0, 0), 25);
        due.is("joined, both parts are doubted", x.cost(0, 2), 15);
        x.changed(0);
        x.changed(1);
        due.is("doubted for two things, more than once", x.cost(0, 0), 25);
        x.confirm(0);
        due.is("sure again", x.cost(0, 0), 10);
        due.is("joined, one part is doubted", x.cost(0, 2), 15);
        x.confirm(1);
        due.is("joined, no part is doubted", x.cost(0, 2), 0);
    }

    private void costOfQuestion() {
        doc.says("Terms", "5 if it has a QUESTION,");
        AnswerKeeper x = new AnswerKeeper();
        x.answer(1, 1, 1, 1, 1);
        askOpen(x, 1);
        x.ask(1, 0, NONE, NONE);
        x.ask(1, 0, 0, NONE);
        x.ask(1, 0, 0, 0);
        due.is("three aspects are open", x.cost(0, 0), 5);
        due.is("two", x.cost(1, 0), 5);
        due.is("one", x.cost(2, 0), 5);
        due.is("none", x.cost(3, 0), 0);
    }

    private void costOfVotes() {
        doc.says("Terms", "less its VOTES (at most 9, at least -9).");
        AnswerKeeper x = withAnswers(2);
        askOpen(x, 0);
        for (int n = 1; n <= 20; n++) {
            x.vote(0, true);
            x.vote(1, false);
            due.is(n + " up", x.cost(0, 0), 3 - Math.min(n, 9));
            due.is(n + " down", x.cost(0, 1), 3 + Math.min(n, 9));
        }
        for (int n = 19; n >= 0; n--) {
            x.vote(0, false);
            x.vote(1, true);
            due.is(n + " up, after 20", x.cost(0, 0), 3 - Math.min(n, 9));
            due.is(n + " down, after 20", x.cost(0, 1), 3 + Math.min(n, 9));
        }
        x.join(0, 1, NONE, NONE);
        x.vote(0, true);
        due.is("joined: those of its parts are not its own", x.cost(0, 2), 6);
        for (int n = 1; n <= 12; n++) {
            x.vote(2, true);
            due.is("joined, " + n + " up", x.cost(0, 2), 6 - Math.min(n, 9));
        }
        for (int n = 11; n >= -12; n--) {
            x.vote(2, false);
            due.is("joined, " + n, x.cost(0, 2), 6 - Math.max(-9, Math.min(n, 9)));
        }
    }

    private void foundAtMostLimit() {
        doc.says("Terms", "FOUND are FIT ones with a COST of at most LIMIT (0 .. 200; 20 at first),");
        AnswerKeeper x = new AnswerKeeper();
        everywhere(x, 0, 1);
        x.answer(0, 2, 1, 1, 1);
        askOpen(x, 3);
        due.is("20 at first: a cost of 20", x.asked(0, 3), 1);
        due.is("20 at first: a cost of 20", x.found(0, 0, 1), 20);
        x.vote(0, false);
        due.is("20 at first: a cost of 21", x.asked(0, 3), 0);
        x.vote(0, true);
        x.rule(1, 19);
        due.is("19: a cost of 20", x.asked(0, 3), 0);
        x.rule(1, 25);
        due.is("25: a cost of 25", x.asked(0, 3), 2);
        x.rule(1, 24);
        due.is("24: a cost of 25", x.asked(0, 3), 1);
        AnswerKeeper y = withAnswers(1);
        askOpen(y, 1);
        y.rule(1, 0);
        due.is("0: a cost of 0", y.asked(0, 3), 1);
        y.vote(0, false);
        due.is("0: a cost of 1", y.asked(0, 3), 0);
        y.vote(0, true);
        y.vote(0, true);
        due.is("0: a cost of -1", y.asked(0, 3), 1);
        y.vote(0, false);
        askOpen(y, 1 | firstWords(20) << 10);
        askOpen(y, firstWords(21) << 10);
        y.rule(1, 200);
        due.is("200: a cost of 200", y.asked(1, 3), 1);
        due.is("200: a cost of 213", y.asked(2, 3), 0);
        y.vote(0, false);
        due.is("200: a cost of 201", y.asked(1, 3), 0);
        AnswerKeeper z = withAnswers(2);
        z.join(0, 1, NONE, NONE);
        askOpen(z, 1 | 2);
        z.rule(1, 0);
        due.is("0: joined, a cost of 0", z.asked(0, 3), 1);
        due.is("0: joined, a cost of 0", z.found(0, 0, 0), 2);
        z.vote(2, false);
        due.is("0: joined, a cost of 1", z.asked(0, 3), 0);
        z.rule(1, 1);
        due.is("1: joined, a cost of 1", z.asked(0, 3), 1);
        due.is("LIMIT -1", y.rule(1, -1), OUTSIDE);
        due.is("LIMIT 201", y.rule(1, 201), OUTSIDE);
    }

    private void foundByCost() {
        doc.says("Terms", "by COST, of like ones by numbers.");
        AnswerKeeper x = new AnswerKeeper();
        for (int a = 0; a < 24; a++) {
            everywhere(x, firstWords(a % 6), a);
        }
        askOpen(x, 0);
        int i = 0;
        for (int words = 0; words < 6; words++) {
            for (int a = words; a < 24; a += 6) {
                due.is("answer " + i, x.found(0, i, 0), a);
                due.is("cost " + i, x.found(0, i, 1), 3 * words);
                i++;
            }
        }
        due.is("no more", x.found(0, 24, 0), NONE);
        for (int n = 0; n < 9; n++) {
            x.vote(23, true);
            x.vote(5, true);
        }
        due.is("6 by 9 votes, as two words", x.found(0, 8, 0), 2);
        due.is("of like ones, 2, 5, 8", x.found(0, 9, 0), 5);
        due.is("of like ones, 5, 8, 14", x.found(0, 10, 0), 8);
        due.is("of like ones, the greatest number", x.found(0, 13, 0), 23);
        due.is("after that the next cost", x.found(0, 14, 0), 3);
        AnswerKeeper y = withAnswers(1);
        everywhere(y, 1, 2);
        y.vote(0, true);
        y.vote(0, true);
        y.vote(1, true);
        askOpen(y, 1);
        due.is("below 0, the least first", y.found(0, 0, 0), 0);
        due.is("below 0, the least first", y.found(0, 1, 1), -1);
        AnswerKeeper z = new AnswerKeeper();
        z.answer(1, 1, 2, 1, 1);
        everywhere(z, 1, 2);
        everywhere(z, 1 | 2, 3);
        everywhere(z, 1 | 2 | 4, 4);
        z.move(1, 3);
        z.ask(1, 0, NONE, NONE);
        due.is("cheaper ones that are not fit, or moved, take no place", z.found(0, 0, 0), 2);
        due.is("cheaper ones that are not fit, or moved, take no place", z.found(0, 1, 0), 3);
        due.is("there are two", z.found(0, 2, 0), NONE);
        AnswerKeeper j = withAnswers(3);
        j.join(0, 1, NONE, NONE);
        everywhere(j, 1 | 2, 4);
        j.join(1, 0, NONE, NONE);
        everywhere(j, 1 | 2, 5);
        askOpen(j, 1 | 2);
        int[] byNumber = {3, 4, 5, 6, 0, 1};
        for (int place = 0; place < byNumber.length; place++) {
            due.is("plain and joined ones of like cost, place " + place, j.found(0, place, 0), byNumber[place]);
        }
        due.is("a cost of 23 is not found", j.found(0, 6, 0), NONE);
    }

    private void atMost() {
        doc.says("Terms", "ASKS (30 at most) are kept.");
        AnswerKeeper x = withAnswers(24);
        for (int k = 0; k < 29; k++) {
            due.is("ask " + k, askOpen(x, 1L << k), k);
        }
        due.is("the 30th", x.ask(1L << 39, 7, 9, 3), 29);
        due.is("the 31st", askOpen(x, 1), FULL);
        due.is("the 31st again", askOpen(x, 1), FULL);
        due.is("30 are kept", x.count(6), 30);
        for (int k = 0; k < 24; k++) {
            due.is("what ask " + k + " finds", x.found(k, 0, 0), k);
        }
        due.is("the 30th is kept", x.cost(29, 0), 13);
        due.is("no 31st", x.cost(30, 0), UNKNOWN);
    }

    private void inVain() {
        doc.says("Terms", "One that FINDS none (as all is now) is IN VAIN.");
        AnswerKeeper x = new AnswerKeeper();
        x.ask(1, 7, NONE, NONE);
        due.is("there is no answer", x.asked(0, 0), 1);
        everywhere(x, 1, 1);
        due.is("an answer comes", x.asked(0, 0), 0);
        x.fold(0, 5);
        askOpen(x, 1 | 2 | 4);
        due.is("ask 1 has two more words", x.asked(1, 0), 0);
        x.vote(0, false);
        due.is("a vote down", x.asked(1, 0), 1);
        x.fold(1, 5);
        due.is("a word is folded", x.asked(1, 0), 0);
        x.bind(0, 1);
        x.changed(0);
        due.is("a thing changes", x.asked(1, 0), 1);
        x.confirm(0);
        due.is("the answer is confirmed", x.asked(1, 0), 0);
        x.rule(1, 10);
        due.is("a lesser limit", x.asked(1, 0), 1);
        x.answer(7, 2, 1, 1, 1);
        due.is("another answer", x.asked(1, 0), 0);
        x.move(1, 0);
        due.is("that one is moved", x.asked(1, 0), 1);
        x.answer(7, 1, 1, 1, 1);
        x.melt(0, 2);
        due.is("another one is melted into it", x.asked(1, 0), 0);
        due.is("none is in vain", x.count(7), 0);
        x.rule(1, 0);
        due.is("both are in vain", x.count(7), 2);
    }

    private void heaps() {
        doc.says("Terms", "HEAPS: ASKS IN VAIN whose WORDS are FAR by at most NEAR are in one HEAP,");
        long[][] pairs = {{0, 0, 0}, {0, 1, 1}, {1, 2, 2}, {3, 4, 3}, {0, 1023, 10}, {31, 31L << 35, 10},
            {0, 2047, 11}, {63, 31L << 35, 11}};
        for (long[] pair : pairs) {
            AnswerKeeper x = new AnswerKeeper();
            x.ask(pair[0], 0, 0, 0);
            x.ask(pair[1], 7, NONE, 3);
            due.is("far by " + pair[2] + ", NEAR 2 at first", x.count(8), pair[2] <= 2 ? 1 : 2);
            for (int near = 0; near <= 10; near++) {
                x.rule(0, near);
                due.is("far by " + pair[2] + ", NEAR " + near, x.count(8), pair[2] <= near ? 1 : 2);
                due.is("the heap of the second", x.asked(1, 1), pair[2] <= near ? 0 : 1);
            }
        }
        AnswerKeeper y = new AnswerKeeper();
        askOpen(y, 0b0111);
        askOpen(y, 0b1000);
        y.rule(0, 3);
        due.is("not folded", y.count(8), 2);
        y.fold(0, 1);
        due.is("folded", y.count(8), 1);
        due.is("in vain both", y.count(7), 2);
        everywhere(y, 0b1000, 1);
        due.is("one of them finds", y.count(8), 1);
        due.is("the one in vain", y.asked(0, 1), 0);
        due.is("the one that finds", y.asked(1, 1), NONE);
    }

    private void heapsFromOneToTheNext() {
        doc.says("Terms", "and so on from one to the next;");
        AnswerKeeper x = new AnswerKeeper();
        x.rule(0, 1);
        for (int k = 0; k < 30; k++) {
            int place = k * 7 % 30;
            x.ask(firstWords(place), k % 8, k % 10, k % 4);
        }
        due.is("thirty in a row", x.count(8), 1);
        for (int k = 0; k < 30; k++) {
            due.is("the heap of " + k, x.asked(k, 1), 0);
        }
        x.rule(0, 0);
        due.is("none is near another", x.count(8), 30);
        x.rule(0, 1);
        x.rule(1, 0);
        everywhere(x, firstWords(15), 1);
        due.is("the one in the middle finds: two heaps", x.count(8), 2);
        for (int k = 0; k < 30; k++) {
            int place = k * 7 % 30;
            due.is("the heap of place " + place, x.asked(k, 1), place == 15 ? NONE : place < 15 ? 0 : 1);
        }
        AnswerKeeper y = new AnswerKeeper();
        askOpen(y, 0);
        askOpen(y, 15);
        due.is("not near", y.count(8), 2);
        askOpen(y, 3);
        due.is("one between them", y.count(8), 1);
    }

    private void heapNumbers() {
        doc.says("Terms", "numbered by their least ASKS.");
        AnswerKeeper x = new AnswerKeeper();
        x.rule(0, 0);
        int[] words = {3, 1, 2, 1, 3, 0, 2};
        int[] heaps = {0, 1, 2, 1, 0, 3, 2};
        for (int w : words) {
            askOpen(x, w);
        }
        for (int k = 0; k < words.length; k++) {
            due.is("the heap of " + k, x.asked(k, 1), heaps[k]);
        }
        x.fold(1, 39);
        x.rule(1, 0);
        everywhere(x, 3, 1);
        int[] later = {NONE, 0, 1, 0, NONE, 2, 1};
        for (int k = 0; k < words.length; k++) {
            due.is("the first two find: the heap of " + k, x.asked(k, 1), later[k]);
        }
        AnswerKeeper y = new AnswerKeeper();
        y.rule(0, 0);
        for (int k = 0; k < 30; k++) {
            askOpen(y, 1L << k);
        }
        for (int k = 0; k < 30; k++) {
            due.is("thirty heaps: that of " + k, y.asked(k, 1), k);
        }
    }

    private void help() {
        doc.says("Terms", "THE HELP of one IN VAIN: the least WORD which, if it were in the ASK, too, would have it FIND "
                + "one; NONE: there is none.");
        for (int w = 0; w < 40; w++) {
            AnswerKeeper x = new AnswerKeeper();
            everywhere(x, 1L << w, 1);
            x.rule(1, 2);
            x.ask(0, 0, 0, 0);
            due.is("in vain", x.asked(0, 0), 1);
            due.is("word " + w + " alone helps", x.asked(0, 2), w);
            everywhere(x, ALL_WORDS >> w << w | 1L << 38 | 1L << 39, 2);
            due.is("a dearer one does not matter", x.asked(0, 2), w);
            everywhere(x, 1L << 39, 3);
            due.is("the least of two words", x.asked(0, 2), w);
            x.rule(1, 0);
            due.is("with a cost of 0", x.asked(0, 2), w);
        }
        AnswerKeeper y = new AnswerKeeper();
        everywhere(y, firstWords(7), 1);
        y.ask(0, 0, 0, 0);
        y.ask(8, 7, 9, 3);
        due.is("21 is above the limit, 18 is not", y.asked(0, 2), 0);
        due.is("18 is found", y.asked(1, 2), NONE);
        y.rule(1, 17);
        due.is("18 is above the limit", y.asked(0, 2), NONE);
        due.is("its own word does not help", y.asked(1, 2), 0);
        y.rule(1, 15);
        due.is("15 is at the limit", y.asked(1, 2), 0);
        y.rule(1, 14);
        due.is("one word does not help", y.asked(1, 2), NONE);
        due.is("in vain all the same", y.asked(1, 0), 1);
        y.rule(1, 15);
        y.vote(0, false);
        due.is("a vote down", y.asked(1, 2), NONE);
        AnswerKeeper z = new AnswerKeeper();
        z.answer(1, 1, 1, 1, 1);
        z.ask(1, 1, 0, 0);
        due.is("a word does not help where none is fit", z.asked(0, 2), NONE);
        due.is("no answer at all", helpWithout(), NONE);
    }

    private static int helpWithout() {
        AnswerKeeper x = new AnswerKeeper();
        askOpen(x, 1);
        return x.asked(0, 2);
    }

    private void helpOfBook() {
        doc.says("Terms", "THE HELP of one IN VAIN: the least WORD which, if it were in the ASK, too,");
        AnswerKeeper x = new AnswerKeeper();
        everywhere(x, 1L << 20, 1);
        askOpen(x, 0);
        x.rule(1, 0);
        due.is("the word itself", x.asked(0, 2), 20);
        x.fold(30, 20);
        due.is("a greater one that is folded to it", x.asked(0, 2), 20);
        x.fold(10, 20);
        due.is("a lesser one that is folded to it", x.asked(0, 2), 10);
        x.fold(5, 10);
        due.is("not by one to the next", x.asked(0, 2), 10);
        x.fold(20, 5);
        due.is("it is folded to another itself", x.asked(0, 2), 20);
        x.fold(0, 5);
        due.is("as the answer's word is", x.asked(0, 2), 0);
        AnswerKeeper y = new AnswerKeeper();
        everywhere(y, 3, 1);
        y.fold(2, 0);
        y.fold(0, 9);
        y.fold(9, 8);
        y.rule(1, 0);
        askOpen(y, 1);
        due.is("its own words are folded once with the word", y.asked(0, 2), 1);
        askOpen(y, 1 | 2);
        due.is("as it finds with the word", y.asked(1, 3), 1);
    }

    private void ask() {
        doc.says("Promise 17", "An ASK is kept: its number.");
        AnswerKeeper x = withAnswers(2);
        due.is("the first", askOpen(x, 1), 0);
        due.is("the same again", askOpen(x, 1), 1);
        due.is("one in vain", askOpen(x, 7L << 20), 2);
        due.is("each is kept", x.count(6), 3);
        due.is("answers are not touched", x.count(0), 2);
        x.fold(0, 1);
        x.fold(0, 0);
        due.is("its words are kept, not folded for good", x.cost(0, 0), 0);
    }

    private void askRefused() {
        doc.says("Promise 17", "OUTSIDE (words as above; VALUES, or NONE), FULL.");
        AnswerKeeper x = new AnswerKeeper();
        long[] wrongWords = {-1, 1L << 40, (1L << 40) + 1, 1L << 63, Long.MAX_VALUE};
        for (long words : wrongWords) {
            due.is("words " + words, x.ask(words, 0, 0, 0), OUTSIDE);
        }
        int[] wrong = {-2, 10, 16, 31, 32, 64, 256, LEAST, MOST};
        for (int v : wrong) {
            due.is("product " + v, x.ask(1, v, 0, 0), OUTSIDE);
            due.is("edition " + v, x.ask(1, 0, v, 0), OUTSIDE);
            due.is("role " + v, x.ask(1, 0, 0, v), OUTSIDE);
        }
        due.is("product 8", x.ask(1, 8, 0, 0), OUTSIDE);
        due.is("role 4", x.ask(1, 0, 0, 4), OUTSIDE);
        due.is("none was kept", x.count(6), 0);
        due.is("the least", x.ask(0, 0, 0, 0), 0);
        due.is("the most", x.ask(ALL_WORDS, 7, 9, 3), 1);
        due.is("not told", x.ask(1, NONE, NONE, NONE), 2);
        for (int k = 3; k < 30; k++) {
            due.is("room for 30", x.ask(1, 0, 0, 0), k);
        }
        due.is("FULL", x.ask(1, 0, 0, 0), FULL);
        due.is("OUTSIDE ahead of FULL: words", x.ask(-1, 0, 0, 0), OUTSIDE);
        due.is("OUTSIDE ahead of FULL: product", x.ask(1, 8, 0, 0), OUTSIDE);
        due.is("OUTSIDE ahead of FULL: edition", x.ask(1, 0, 10, 0), OUTSIDE);
        due.is("OUTSIDE ahead of FULL: role", x.ask(1, 0, 0, -2), OUTSIDE);
    }

    private void found() {
        doc.says("Promise 18", "The i-th that an ASK FINDS (0 the best): what = 0 the ANSWER, 1 its COST, 2 its "
                + "QUESTION.");
        AnswerKeeper x = new AnswerKeeper();
        x.answer(3, 1, 255, 1023, 8);
        x.answer(1, 1, 255, 1023, 8);
        x.answer(1, 1, 255, 512, 8);
        everywhere(x, 7, 1);
        everywhere(x, 1L << 39, 1);
        askOpen(x, 1);
        x.ask(1, NONE, 9, 3);
        int[][] wants = {{1, 5, 2}, {2, 5, 1}, {3, 6, NONE}, {0, 8, 2}, {4, 13, NONE}};
        for (int i = 0; i < 5; i++) {
            for (int what = 0; what < 3; what++) {
                due.is("found(0, " + i + ", " + what + ")", x.found(0, i, what), wants[i][what]);
            }
        }
        due.is("all told: the best", x.found(1, 0, 0), 1);
        due.is("all told: its cost", x.found(1, 0, 1), 0);
        due.is("all told: no question", x.found(1, 0, 2), NONE);
        due.is("the second, of like cost", x.found(1, 1, 0), 2);
    }

    private void foundRefused() {
        doc.says("Promise 18", "NONE: there is none such (so is a QUESTION that there is not); UNKNOWN, OUTSIDE: what.");
        AnswerKeeper x = withAnswers(2);
        askOpen(x, 1);
        askOpen(x, 7L << 30);
        int[] none = {-1, 2, 3, 24, 256, LEAST, MOST};
        for (int what = 0; what < 3; what++) {
            for (int i : none) {
                due.is("found(0, " + i + ", " + what + ")", x.found(0, i, what), NONE);
            }
            due.is("in vain", x.found(1, 0, what), NONE);
        }
        due.is("a question that there is not", x.found(0, 0, 2), NONE);
        int[] noAsk = {-1, 2, 29, 30, 32, LEAST, MOST};
        for (int k : noAsk) {
            due.is("no ask " + k, x.found(k, 0, 0), UNKNOWN);
            due.is("UNKNOWN ahead of OUTSIDE", x.found(k, 0, 3), UNKNOWN);
            due.is("UNKNOWN, though there is none such", x.found(k, -1, 0), UNKNOWN);
        }
        int[] wrong = {-1, 3, 4, 16, 32, 256, LEAST, MOST};
        for (int what : wrong) {
            due.is("what " + what, x.found(0, 0, what), OUTSIDE);
            due.is("OUTSIDE, though there is none such", x.found(0, 2, what), OUTSIDE);
            due.is("OUTSIDE, though it is in vain", x.found(1, 0, what), OUTSIDE);
        }
        due.is("the last one", x.found(0, 1, 0), 1);
    }

    private void cost() {
        doc.says("Promise 19", "COST of an ANSWER for an ASK.");
        AnswerKeeper x = new AnswerKeeper();
        x.answer(0b0111, 1, 3, EDITIONS, ROLES);
        x.bind(0, 1);
        x.changed(0);
        x.vote(0, true);
        x.vote(0, true);
        askOpen(x, 0b11001);
        due.is("2 by 10, 2 by 3, 15, 5, less 2", x.cost(0, 0), 20 + 6 + 15 + 5 - 2);
        due.is("above the limit it is told all the same", x.asked(0, 3), 0);
        x.rule(1, 0);
        due.is("the limit does not matter", x.cost(0, 0), 44);
        x.ask(0b11001, 1, NONE, NONE);
        due.is("no question", x.cost(1, 0), 39);
    }

    private void costRefused() {
        doc.says("Promise 19", "UNKNOWN (both); NOT: it is not FIT, or MOVED.");
        AnswerKeeper x = new AnswerKeeper();
        x.answer(1, 1, 3, 3, 3);
        x.answer(1, 1, 4, 3, 3);
        everywhere(x, 1, 1);
        x.join(0, 1, NONE, NONE);
        x.move(2, 0);
        x.ask(1, 0, 0, 0);
        x.ask(1, 2, 0, 0);
        x.ask(1, 0, 2, 0);
        x.ask(1, 0, 0, 2);
        askOpen(x, 1);
        int[] none = {-1, 5, 23, 24, 30, 32, LEAST, MOST};
        for (int n : none) {
            due.is("no ask " + n, x.cost(n, 0), UNKNOWN);
            due.is("no answer " + n, x.cost(0, n), UNKNOWN);
            due.is("neither " + n, x.cost(n, n), UNKNOWN);
            due.is("UNKNOWN ahead of NOT: moved", x.cost(n, 2), UNKNOWN);
        }
        due.is("there are four answers", x.cost(0, 4), UNKNOWN);
        due.is("there are five asks", x.cost(4, 0), 5);
        int[] costs = {0, NOT, NOT, NOT, 5};
        for (int k = 0; k < 5; k++) {
            due.is("cost(" + k + ", 0)", x.cost(k, 0), costs[k]);
            due.is("moved", x.cost(k, 2), NOT);
            due.is("an empty set", x.cost(k, 3), NOT);
        }
        due.is("another product", x.cost(1, 1), 0);
    }

    private void costBelowZero() {
        doc.says("Promise 19", "(What is told may be below 0.)");
        AnswerKeeper x = withAnswers(1);
        askOpen(x, 1);
        for (int n = 1; n <= 12; n++) {
            x.vote(0, true);
            due.is(n + " votes", x.cost(0, 0), -Math.min(n, 9));
            due.is(n + " votes, found", x.found(0, 0, 1), -Math.min(n, 9));
        }
        x.vote(0, false);
        x.vote(0, false);
        due.is("10 votes: no less than -9", x.cost(0, 0), -9);
        due.is("not taken for NONE or a refusal", x.asked(0, 3), 1);
    }

    private void asked() {
        doc.says("Promise 20", "Of an ASK: what = 0 whether it is IN VAIN, 1 its HEAP (NONE), 2 THE HELP (NONE, also if "
                + "it is not IN VAIN), 3 how many it FINDS.");
        AnswerKeeper x = new AnswerKeeper();
        for (int a = 0; a < 24; a++) {
            everywhere(x, 3, a);
        }
        askOpen(x, 3);
        askOpen(x, 7L << 20 | 3);
        askOpen(x, 7L << 20 | 1);
        askOpen(x, 7L << 30 | 2);
        int[][] first = {{0, NONE, NONE, 24}, {1, 0, NONE, 0}, {1, 0, NONE, 0}, {1, 1, NONE, 0}};
        asks(x, first);
        x.rule(1, 30);
        int[][] then = {{0, NONE, NONE, 24}, {0, NONE, NONE, 24}, {1, 0, 1, 0}, {1, 1, 0, 0}};
        asks(x, then);
        for (int a = 0; a < 23; a++) {
            x.move(a, 23);
        }
        int[][] later = {{0, NONE, NONE, 1}, {0, NONE, NONE, 1}, {1, 0, 1, 0}, {1, 1, 0, 0}};
        asks(x, later);
    }

    private void asks(AnswerKeeper x, int[][] wants) {
        for (int k = 0; k < wants.length; k++) {
            for (int what = 0; what <= 3; what++) {
                due.is("asked(" + k + ", " + what + ")", x.asked(k, what), wants[k][what]);
            }
        }
    }

    private void askedRefused() {
        doc.says("Promise 20", "UNKNOWN, OUTSIDE.");
        AnswerKeeper x = withAnswers(3);
        askOpen(x, 1);
        askOpen(x, 7L << 20);
        int[] none = {-1, 2, 29, 30, 31, 32, LEAST, MOST};
        for (int k : none) {
            for (int what = -1; what <= 4; what++) {
                due.is("no ask " + k, x.asked(k, what), UNKNOWN);
            }
        }
        int[] wrong = {-1, 4, 5, 16, 32, 256, LEAST, MOST};
        for (int what : wrong) {
            due.is("one that finds, what " + what, x.asked(0, what), OUTSIDE);
            due.is("one in vain, what " + what, x.asked(1, what), OUTSIDE);
        }
        due.is("the first", x.asked(0, 0), 0);
        due.is("the last", x.asked(1, 0), 1);
        due.is("none at all", new AnswerKeeper().asked(0, 0), UNKNOWN);
    }
}
