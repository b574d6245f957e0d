/** Each promise of the document by hand: ordinary calls, the edges it names, wrong inputs and their order. */
public final class PromisesTest {
    private static final int NONE = -1, UNKNOWN = -1001, OUTSIDE = -1002, NOT = -1003, FULL = -1004;
    private static final long ALL_WORDS = (1L << 40) - 1;
    private static final int LEAST = Integer.MIN_VALUE, MOST = Integer.MAX_VALUE;

    private static final Due due = new Due();

    public static void main(String[] args) {
        newObject();
        fold();
        changed();
        rule();
        answer();
        join();
        joinOfMoved();
        bind();
        confirm();
        move();
        moveIntoParts();
        moveDeep();
        melt();
        meltRefused();
        vote();
        told();
        toldOfMoved();
        words();
        holds();
        count();
        countQuarrels();
        quarrel();
        ask();
        found();
        foundOrder();
        cost();
        costParts();
        asked();
        heaps();
        heapsApart();
        help();
        due.end();
    }

    private static int everywhere(AnswerKeeper x, long words, int steps) {
        return x.answer(words, steps, 255, 1023, 15);
    }

    private static void newObject() {
        due.part("1 new object");
        due.is("NONE", AnswerKeeper.NONE, -1);
        due.is("UNKNOWN", AnswerKeeper.UNKNOWN, -1001);
        due.is("OUTSIDE", AnswerKeeper.OUTSIDE, -1002);
        due.is("NOT", AnswerKeeper.NOT, -1003);
        due.is("FULL", AnswerKeeper.FULL, -1004);
        AnswerKeeper x = new AnswerKeeper();
        for (int what = 0; what <= 8; what++) {
            due.is("count(" + what + ")", x.count(what), 0);
        }
        for (int w = 0; w < 40; w++) {
            due.is("fold itself " + w, x.fold(w, w), w);
        }
        for (int thing = 0; thing < 10; thing++) {
            due.is("changed(" + thing + ")", x.changed(thing), 1);
        }
        due.is("NEAR", x.rule(0, 2), 2);
        due.is("LIMIT", x.rule(1, 20), 20);
        due.is("told", x.told(0, 0), UNKNOWN);
        due.is("asked", x.asked(0, 0), UNKNOWN);
        due.is("quarrel", x.quarrel(0, 0), NONE);
        AnswerKeeper y = new AnswerKeeper();
        due.is("an object of its own: changed", y.changed(0), 1);
        due.is("an object of its own: answer", everywhere(y, 1, 1), 0);
        due.is("an object of its own: count", x.count(0), 0);
    }

    private static void fold() {
        due.part("2 fold");
        AnswerKeeper x = new AnswerKeeper();
        int[][] outside = {{-1, 0}, {0, -1}, {40, 0}, {0, 40}, {LEAST, 0}, {0, MOST}, {-1, 40}};
        for (int[] pair : outside) {
            due.is("fold(" + pair[0] + ", " + pair[1] + ")", x.fold(pair[0], pair[1]), OUTSIDE);
        }
        due.is("fold(39, 0)", x.fold(39, 0), 39);
        due.is("fold(39, 1)", x.fold(39, 1), 0);
        due.is("fold(39, 39)", x.fold(39, 39), 1);
        due.is("fold(39, 39) again", x.fold(39, 39), 39);
        everywhere(x, 1L << 2, 1);
        x.ask(1L, NONE, NONE, NONE);
        due.is("0 is not 2", x.cost(0, 0), 13);
        x.fold(0, 1);
        x.fold(1, 2);
        due.is("folded once: 0 to 1, not on to 2", x.cost(0, 0), 13);
        x.fold(2, 1);
        due.is("both to 1", x.cost(0, 0), 0);
        due.is("words are not folded", x.words(0), 4);
        everywhere(x, 1L | 1L << 2, 1);
        due.is("two words folded to one are one", x.cost(0, 1), 0);
        x.fold(2, 39);
        due.is("the greatest word", x.cost(0, 0), 13);
        x.fold(0, 39);
        due.is("the greatest word for both", x.cost(0, 0), 0);
    }

    private static void changed() {
        due.part("3 changed");
        AnswerKeeper x = new AnswerKeeper();
        due.is("changed(-1)", x.changed(-1), UNKNOWN);
        due.is("changed(10)", x.changed(10), UNKNOWN);
        due.is("changed(least)", x.changed(LEAST), UNKNOWN);
        due.is("changed(most)", x.changed(MOST), UNKNOWN);
        due.is("changed(9)", x.changed(9), 1);
        due.is("changed(9)", x.changed(9), 2);
        due.is("changed(0)", x.changed(0), 1);
        due.is("changed(9)", x.changed(9), 3);
    }

    private static void rule() {
        due.part("4 rule");
        AnswerKeeper x = new AnswerKeeper();
        int[][] outside = {{2, 1}, {-1, 1}, {0, -1}, {0, 11}, {1, -1}, {1, 201}, {LEAST, LEAST}, {MOST, MOST}};
        for (int[] pair : outside) {
            due.is("rule(" + pair[0] + ", " + pair[1] + ")", x.rule(pair[0], pair[1]), OUTSIDE);
        }
        due.is("rule(0, 10)", x.rule(0, 10), 2);
        due.is("rule(1, 200)", x.rule(1, 200), 20);
        due.is("rule(0, 0)", x.rule(0, 0), 10);
        due.is("rule(1, 0)", x.rule(1, 0), 200);
        due.is("rule(0, 5)", x.rule(0, 5), 0);
        due.is("rule(1, 6)", x.rule(1, 6), 0);
        due.is("rule(0, 5) again", x.rule(0, 5), 5);
        due.is("rule(1, 6) again", x.rule(1, 6), 6);
    }

    private static void answer() {
        due.part("5 answer");
        AnswerKeeper x = new AnswerKeeper();
        refusedAnswers(x);
        due.is("nothing came of them", x.count(0), 0);
        due.is("the least", x.answer(0L, 0, 1, 1, 1), 0);
        due.is("the most", x.answer(ALL_WORDS, 9999, 255, 1023, 15), 1);
        due.is("words of the most", x.words(1), ALL_WORDS);
        due.is("steps of the most", x.told(1, 2), 9999);
        due.is("products of the most", x.told(1, 3), 255);
        due.is("editions of the most", x.told(1, 4), 1023);
        due.is("roles of the most", x.told(1, 5), 15);
        due.is("bound to no thing", x.told(1, 6), 0);
        due.is("not doubted", x.told(1, 7), 0);
        due.is("no votes", x.told(1, 8), 0);
        for (int a = 2; a < 24; a++) {
            due.is("answer", x.answer(1L << a, a, 1, 2, 4), a);
        }
        due.is("the 25th", everywhere(x, 1L, 1), FULL);
        due.is("OUTSIDE ahead of FULL", x.answer(1L, 1, 0, 1, 1), OUTSIDE);
        due.is("24 of them", x.count(0), 24);
        due.is("the last one", x.words(23), 1L << 23);
        due.is("no 25th", x.words(24), UNKNOWN);
    }

    private static void refusedAnswers(AnswerKeeper x) {
        due.is("words -1", x.answer(-1L, 1, 1, 1, 1), OUTSIDE);
        due.is("words 2^40", x.answer(1L << 40, 1, 1, 1, 1), OUTSIDE);
        due.is("words least", x.answer(Long.MIN_VALUE, 1, 1, 1, 1), OUTSIDE);
        due.is("words most", x.answer(Long.MAX_VALUE, 1, 1, 1, 1), OUTSIDE);
        due.is("steps -1", x.answer(1L, -1, 1, 1, 1), OUTSIDE);
        due.is("steps 10000", x.answer(1L, 10000, 1, 1, 1), OUTSIDE);
        due.is("products none", x.answer(1L, 1, 0, 1, 1), OUTSIDE);
        due.is("products -1", x.answer(1L, 1, -1, 1, 1), OUTSIDE);
        due.is("products 256", x.answer(1L, 1, 256, 1, 1), OUTSIDE);
        due.is("editions none", x.answer(1L, 1, 1, 0, 1), OUTSIDE);
        due.is("editions -1", x.answer(1L, 1, 1, -1, 1), OUTSIDE);
        due.is("editions 1024", x.answer(1L, 1, 1, 1024, 1), OUTSIDE);
        due.is("roles none", x.answer(1L, 1, 1, 1, 0), OUTSIDE);
        due.is("roles -1", x.answer(1L, 1, 1, 1, -1), OUTSIDE);
        due.is("roles 16", x.answer(1L, 1, 1, 1, 16), OUTSIDE);
        due.is("roles least", x.answer(1L, 1, 1, 1, LEAST), OUTSIDE);
    }

    private static void join() {
        due.part("6 join");
        AnswerKeeper x = new AnswerKeeper();
        x.answer(1L, 1, 7, 1023, 15);
        x.answer(2L, 2, 14, 7, 3);
        x.answer(4L, 3, 6, 1, 2);
        x.answer(8L, 4, 9, 3, 15);
        due.is("two", x.join(0, 1, NONE, NONE), 4);
        due.is("three", x.join(2, 1, 0, NONE), 5);
        due.is("four", x.join(3, 2, 1, 0), 6);
        due.is("two parts", x.told(4, 9), 2);
        due.is("three parts", x.told(5, 9), 3);
        due.is("four parts", x.told(6, 9), 4);
        due.is("words", x.words(5), 7);
        due.is("products", x.told(4, 3), 6);
        due.is("editions", x.told(4, 4), 7);
        due.is("roles", x.told(4, 5), 3);
        due.is("sets may be empty", x.told(6, 3), 0);
        due.is("parts as given", x.told(6, 10), 3);
        due.is("parts as given", x.told(6, 13), 0);
        refusedJoins(x);
        due.is("seven so far", x.count(0), 7);
        for (int a = 7; a < 24; a++) {
            due.is("join", x.join(0, 1, NONE, NONE), a);
        }
        due.is("the 25th", x.join(0, 1, NONE, NONE), FULL);
        due.is("NOT ahead of FULL", x.join(0, 0, NONE, NONE), NOT);
        due.is("UNKNOWN ahead of FULL", x.join(0, 24, NONE, NONE), UNKNOWN);
    }

    private static void refusedJoins(AnswerKeeper x) {
        int[][] unknown = {{-1, 0, NONE, NONE}, {0, -1, NONE, NONE}, {0, 7, NONE, NONE}, {7, 0, NONE, NONE},
            {0, 1, -2, NONE}, {0, 1, 7, NONE}, {0, 1, 2, -2}, {0, 1, 2, 7}, {0, 1, NONE, 7}, {0, 1, NONE, -2},
            {0, 0, 7, NONE}, {4, 7, NONE, NONE}, {LEAST, MOST, LEAST, MOST}};
        for (int[] p : unknown) {
            due.is("unknown", x.join(p[0], p[1], p[2], p[3]), UNKNOWN);
        }
        int[][] not = {{0, 0, NONE, NONE}, {0, 1, 0, NONE}, {0, 1, 1, NONE}, {0, 1, 2, 0}, {0, 1, 2, 1}, {0, 1, 2, 2},
            {0, 1, NONE, 2}, {4, 1, NONE, NONE}, {0, 4, NONE, NONE}, {0, 1, 4, NONE}, {0, 1, 2, 4}};
        for (int[] p : not) {
            due.is("not", x.join(p[0], p[1], p[2], p[3]), NOT);
        }
    }

    private static void joinOfMoved() {
        due.part("6 join of moved");
        AnswerKeeper x = new AnswerKeeper();
        everywhere(x, 1L, 1);
        everywhere(x, 2L, 2);
        everywhere(x, 4L, 3);
        x.join(0, 1, NONE, NONE);
        x.move(0, 1);
        due.is("a moved one is not plain", x.join(0, 2, NONE, NONE), NOT);
        due.is("still two parts", x.told(3, 9), 2);
        due.is("both are one by now", x.told(3, 10), 1);
        due.is("both are one by now", x.told(3, 11), 1);
        due.is("words of the end alone", x.words(3), 2);
    }

    private static void bind() {
        due.part("7 bind");
        AnswerKeeper x = new AnswerKeeper();
        everywhere(x, 1L, 1);
        everywhere(x, 2L, 1);
        everywhere(x, 4L, 1);
        x.join(0, 1, NONE, NONE);
        due.is("bind", x.bind(0, 5), 0);
        due.is("bind anew", x.bind(0, 1023), 5);
        due.is("told", x.told(0, 6), 1023);
        due.is("-1", x.bind(0, -1), OUTSIDE);
        due.is("1024", x.bind(0, 1024), OUTSIDE);
        due.is("no answer", x.bind(4, 1), UNKNOWN);
        due.is("no answer -1", x.bind(-1, 1), UNKNOWN);
        due.is("UNKNOWN ahead of OUTSIDE", x.bind(4, -1), UNKNOWN);
        due.is("joined", x.bind(3, 1), NOT);
        due.is("OUTSIDE ahead of NOT", x.bind(3, 1024), OUTSIDE);
        x.move(2, 0);
        due.is("moved", x.bind(2, 1), NOT);
        due.is("refused: as it was", x.bind(0, 0), 1023);
        due.is("joined: things of its parts", x.told(3, 6), 0);
        x.changed(3);
        due.is("bound to nothing, not doubted", x.told(0, 7), 0);
        x.bind(0, 8);
        due.is("it changed since the answer came, bound now", x.told(0, 7), 1);
        due.is("joined: things of its parts", x.told(3, 6), 8);
        due.is("joined: doubted with a part", x.told(3, 7), 1);
        x.bind(0, 4);
        due.is("bound to another one, not doubted", x.told(0, 7), 0);
        x.bind(1, 512);
        due.is("joined: of all parts", x.told(3, 6), 516);
        x.changed(9);
        due.is("the last thing", x.told(1, 7), 1);
    }

    private static void confirm() {
        due.part("8 confirm");
        AnswerKeeper x = new AnswerKeeper();
        x.changed(0);
        everywhere(x, 1L, 1);
        everywhere(x, 2L, 1);
        x.join(0, 1, NONE, NONE);
        x.bind(0, 3);
        x.bind(1, 2);
        due.is("a change ahead of it", x.told(0, 7), 0);
        due.is("not doubted", x.confirm(0), 0);
        x.changed(0);
        due.is("doubted", x.told(0, 7), 1);
        x.changed(0);
        due.is("doubted once", x.confirm(0), 1);
        due.is("sure again", x.told(0, 7), 0);
        due.is("sure again", x.confirm(0), 0);
        x.changed(1);
        due.is("one is confirmed", x.confirm(0), 1);
        due.is("the other one is not", x.told(1, 7), 1);
        due.is("joined", x.told(2, 7), 1);
        due.is("joined: not to be confirmed", x.confirm(2), NOT);
        due.is("no answer", x.confirm(3), UNKNOWN);
        due.is("no answer", x.confirm(-1), UNKNOWN);
        x.move(0, 1);
        due.is("moved", x.confirm(0), NOT);
        due.is("confirm", x.confirm(1), 1);
        due.is("joined is sure with its parts", x.told(2, 7), 0);
        x.changed(5);
        due.is("not bound to that", x.told(1, 7), 0);
    }

    private static void move() {
        due.part("9 move");
        AnswerKeeper x = new AnswerKeeper();
        for (int a = 0; a < 6; a++) {
            everywhere(x, 1L << a, a);
        }
        due.is("no a", x.move(6, 0), UNKNOWN);
        due.is("no b", x.move(0, 6), UNKNOWN);
        due.is("neither", x.move(-1, -1), UNKNOWN);
        due.is("itself", x.move(0, 0), NOT);
        due.is("move", x.move(0, 1), 1);
        due.is("moved already", x.move(0, 2), NOT);
        due.is("UNKNOWN ahead of NOT", x.move(0, 6), UNKNOWN);
        due.is("its end would be itself", x.move(1, 0), NOT);
        due.is("on", x.move(1, 2), 2);
        due.is("a chain", x.told(0, 1), 2);
        due.is("to the end of a moved one", x.move(3, 0), 2);
        due.is("its end would be itself, by two steps", x.move(2, 3), NOT);
        due.is("the end moves on", x.move(2, 4), 4);
        for (int a = 0; a < 5; a++) {
            due.is("all ends", x.told(a, 1), 4);
        }
        due.is("an end of its own", x.told(5, 1), 5);
        due.is("four moved", x.count(3), 4);
        due.is("kind", x.told(3, 0), 2);
    }

    private static void moveIntoParts() {
        due.part("9 move into parts");
        AnswerKeeper x = new AnswerKeeper();
        for (int a = 0; a < 6; a++) {
            everywhere(x, 1L << a, a);
        }
        x.join(0, 1, 2, NONE);
        x.join(3, 4, NONE, NONE);
        due.is("a part of b", x.move(1, 6), NOT);
        due.is("a part to the other joined one", x.move(3, 6), 6);
        due.is("the joined one is a part now", x.told(7, 10), 6);
        due.is("a part at depth 2", x.move(0, 7), NOT);
        due.is("a joined one that is a part", x.move(6, 7), NOT);
        due.is("words at any depth", x.words(7), 1 | 2 | 4 | 16);
        due.is("by the end of b", x.move(2, 3), NOT);
        due.is("a joined one to its own part", x.move(7, 0), 0);
        due.is("what it was stays", x.told(7, 10), 6);
        due.is("what it was stays", x.words(7), 1 | 2 | 4 | 16);
        due.is("a part of a moved one", x.move(5, 7), 0);
        due.is("a part may lead on", x.move(1, 5), 0);
        due.is("which is a part twice", x.told(6, 10), 0);
        due.is("which is a part twice", x.told(6, 11), 0);
        due.is("words", x.words(6), 1 | 4);
        due.is("still refused", x.move(0, 6), NOT);
        due.is("still refused", x.move(2, 6), NOT);
        due.is("4 is a part of 7 alone, which is moved", x.move(4, 6), 6);
        due.is("both parts of 7", x.told(7, 11), 6);
        due.is("words", x.words(7), 1 | 4);
    }

    /** Each joined one has a part that leads on to the next one, which has a greater number. */
    private static void moveDeep() {
        due.part("9 move, seven deep");
        AnswerKeeper x = new AnswerKeeper();
        for (int a = 0; a < 14; a++) {
            x.answer(1L << a, a, 255, 1023 ^ 1 << a % 10, 15);
        }
        for (int k = 0; k < 7; k++) {
            x.join(2 * k, 2 * k + 1, NONE, NONE);
        }
        for (int k = 0; k < 6; k++) {
            due.is("move", x.move(2 * k, 15 + k), 15 + k);
        }
        due.is("words at any depth", x.words(14), 0b11101010101010L);
        due.is("sets at any depth", x.told(14, 4), 1023 & ~0b1010101010 & ~0b1100);
        x.bind(13, 64);
        x.changed(6);
        due.is("doubted at any depth", x.told(14, 7), 1);
        due.is("things at any depth", x.told(14, 6), 64);
        due.is("all seven are doubted, and the part", x.count(4), 8);
        due.is("a part at any depth", x.move(13, 14), NOT);
        due.is("a joined part at any depth", x.move(20, 14), NOT);
        due.is("by a moved one", x.move(12, 0), NOT);
        due.is("the other way", x.move(14, 20), 20);
    }

    private static void melt() {
        due.part("10 melt");
        AnswerKeeper x = new AnswerKeeper();
        x.answer(1L, 5, 1, 3, 15);
        x.answer(1L << 39, 5, 2, 3, 15);
        x.fold(39, 0);
        x.bind(0, 1);
        x.bind(1, 2);
        x.changed(0);
        x.confirm(0);
        x.vote(0, true);
        x.vote(0, true);
        x.vote(1, false);
        due.is("like for two", x.melt(0, 1), 1);
        due.is("words of both, not folded", x.words(0), 1L | 1L << 39);
        due.is("products of both", x.told(0, 3), 3);
        due.is("editions", x.told(0, 4), 3);
        due.is("roles", x.told(0, 5), 15);
        due.is("things of both", x.told(0, 6), 3);
        due.is("sure since the earlier time", x.told(0, 7), 1);
        due.is("votes added", x.told(0, 8), 1);
        due.is("b is moved", x.told(1, 0), 2);
        due.is("b's end", x.told(1, 1), 0);
        due.is("what b was stays", x.told(1, 3), 2);
        due.is("what b was stays", x.told(1, 6), 2);
        due.is("what b was stays", x.told(1, 8), -1);
        due.is("what b was stays", x.words(1), 1L << 39);
        x.answer(4L, 5, 255, 1023, 15);
        due.is("a within b", x.melt(0, 2), 1);
        due.is("all values", x.told(0, 3), 255);
        due.is("all values", x.told(0, 4), 1023);
        x.answer(8L, 5, 2, 2, 2);
        due.is("b within a", x.melt(0, 3), 1);
        due.is("values stay", x.told(0, 3), 255);
        due.is("b's end", x.told(3, 1), 0);
        x.answer(16L, 5, 255, 1, 15);
        x.join(4, 0, NONE, NONE);
        due.is("into the other one", x.melt(4, 0), 1);
        due.is("ends go along", x.told(1, 1), 4);
        due.is("parts melt, too", x.told(5, 11), 4);
        due.is("words of the joined one", x.words(5), x.words(4));
        due.is("sets of the joined one", x.told(5, 4), 1023);
        due.is("like for editions and roles", x.answer(1L, 6, 1, 3, 3), 6);
        due.is("like for editions and roles", x.answer(1L, 6, 2, 3, 3), 7);
        due.is("like for editions and roles", x.melt(7, 6), 1);
        due.is("like for products and roles", x.answer(1L, 6, 3, 4, 3), 8);
        due.is("like for products and roles", x.melt(7, 8), 1);
        due.is("like for products and editions", x.answer(1L, 6, 3, 7, 4), 9);
        due.is("like for products and editions", x.melt(7, 9), 1);
        due.is("all of them", x.told(7, 5), 7);
    }

    private static void meltRefused() {
        due.part("10 melt refused");
        AnswerKeeper x = new AnswerKeeper();
        x.answer(1L, 5, 1, 3, 15);
        x.answer(1L, 6, 1, 3, 15);
        x.answer(1L, 5, 2, 1, 15);
        x.answer(1L, 5, 3, 1, 7);
        x.answer(1L, 5, 1, 3, 15);
        x.answer(1L, 5, 1, 3, 15);
        x.join(0, 4, NONE, NONE);
        due.is("no a", x.melt(7, 0), UNKNOWN);
        due.is("no b", x.melt(0, 7), UNKNOWN);
        due.is("no b", x.melt(0, -1), UNKNOWN);
        due.is("UNKNOWN ahead of NOT", x.melt(6, 7), UNKNOWN);
        due.is("one", x.melt(0, 0), NOT);
        due.is("unlike steps", x.melt(0, 1), NOT);
        due.is("like for one alone", x.melt(0, 2), NOT);
        due.is("like for none, neither within the other", x.melt(0, 3), NOT);
        due.is("joined", x.melt(6, 0), NOT);
        due.is("joined", x.melt(0, 6), NOT);
        x.move(5, 2);
        due.is("moved", x.melt(0, 5), NOT);
        due.is("moved", x.melt(5, 0), NOT);
        due.is("nothing changed", x.told(0, 3), 1);
        due.is("one moved", x.count(3), 1);
        due.is("parts of one joined may melt", x.melt(0, 4), 1);
        due.is("both parts are one", x.told(6, 11), 0);
    }

    private static void vote() {
        due.part("11 vote");
        AnswerKeeper x = new AnswerKeeper();
        everywhere(x, 1L, 1);
        everywhere(x, 2L, 1);
        x.join(0, 1, NONE, NONE);
        due.is("up", x.vote(0, true), 1);
        due.is("up", x.vote(0, true), 2);
        due.is("down", x.vote(0, false), 1);
        due.is("down", x.vote(0, false), 0);
        due.is("down", x.vote(0, false), -1);
        due.is("joined", x.vote(2, true), 1);
        due.is("told", x.told(2, 8), 1);
        due.is("told", x.told(0, 8), -1);
        due.is("no answer", x.vote(3, true), UNKNOWN);
        due.is("no answer", x.vote(-1, false), UNKNOWN);
        x.move(0, 1);
        due.is("moved", x.vote(0, true), NOT);
        due.is("a move takes no votes along", x.told(1, 8), 0);
        for (int k = 1; k <= 12; k++) {
            due.is("beyond what costs count", x.vote(1, true), k);
        }
    }

    private static void told() {
        due.part("12 told");
        AnswerKeeper x = new AnswerKeeper();
        x.answer(3L, 77, 5, 6, 7);
        x.answer(4L, 78, 4, 2, 3);
        x.join(1, 0, NONE, NONE);
        x.bind(0, 9);
        x.bind(1, 2);
        x.vote(0, false);
        x.changed(3);
        int[][] wants = {{0, 0, 77, 5, 6, 7, 9, 1, -1, 0, NONE, NONE, NONE, NONE},
            {0, 1, 78, 4, 2, 3, 2, 0, 0, 0, NONE, NONE, NONE, NONE},
            {1, 2, NONE, 4, 2, 3, 11, 1, 0, 2, 1, 0, NONE, NONE}};
        for (int a = 0; a < 3; a++) {
            for (int what = 0; what < 14; what++) {
                due.is("told(" + a + ", " + what + ")", x.told(a, what), wants[a][what]);
            }
        }
        due.is("-1", x.told(0, -1), OUTSIDE);
        due.is("14", x.told(0, 14), OUTSIDE);
        due.is("least", x.told(0, LEAST), OUTSIDE);
        due.is("no answer", x.told(3, 0), UNKNOWN);
        due.is("no answer", x.told(-1, 0), UNKNOWN);
        due.is("UNKNOWN ahead of OUTSIDE", x.told(3, 14), UNKNOWN);
    }

    private static void toldOfMoved() {
        due.part("12 told of moved");
        AnswerKeeper x = new AnswerKeeper();
        x.answer(3L, 77, 5, 6, 7);
        x.answer(4L, 78, 4, 2, 3);
        x.answer(8L, 79, 255, 1023, 15);
        x.join(0, 1, NONE, NONE);
        x.bind(0, 1);
        x.vote(0, true);
        x.vote(3, false);
        x.changed(0);
        x.move(3, 2);
        int[] joined = {2, 2, NONE, 4, 2, 3, 1, 0, -1, 2, 0, 1, NONE, NONE};
        for (int what = 0; what < 14; what++) {
            due.is("joined, moved, " + what, x.told(3, what), joined[what]);
        }
        x.move(0, 3);
        int[] plain = {2, 2, 77, 5, 6, 7, 1, 0, 1, 0, NONE, NONE, NONE, NONE};
        for (int what = 0; what < 14; what++) {
            due.is("plain, moved, " + what, x.told(0, what), plain[what]);
        }
        due.is("a moved one's part is its end", x.told(3, 10), 2);
        due.is("a moved one's sets are as of its parts", x.told(3, 3), 4);
        x.bind(2, 4);
        due.is("a moved one's things are its parts'", x.told(3, 6), 4);
    }

    private static void words() {
        due.part("13 words");
        AnswerKeeper x = new AnswerKeeper();
        x.answer(ALL_WORDS, 1, 1, 1, 1);
        x.answer(5L, 1, 1, 1, 1);
        x.answer(6L, 1, 1, 1, 1);
        x.answer(0L, 1, 1, 1, 1);
        x.join(1, 2, NONE, NONE);
        x.fold(0, 1);
        due.is("all", x.words(0), ALL_WORDS);
        due.is("not folded", x.words(1), 5);
        due.is("none", x.words(3), 0);
        due.is("joined", x.words(4), 7);
        x.move(1, 3);
        due.is("moved, as if it were not", x.words(1), 5);
        due.is("joined: of the end", x.words(4), 6);
        due.is("no answer", x.words(5), UNKNOWN);
        due.is("no answer", x.words(-1), UNKNOWN);
        due.is("no answer", x.words(LEAST), UNKNOWN);
    }

    private static void holds() {
        due.part("14 holds");
        AnswerKeeper x = new AnswerKeeper();
        x.answer(1L, 1, 128, 512, 8);
        x.answer(1L, 1, 129, 513, 9);
        x.answer(1L, 1, 1, 1, 1);
        x.join(0, 1, NONE, NONE);
        x.join(0, 2, NONE, NONE);
        due.is("holds", x.holds(0, 7, 9, 3), 1);
        due.is("another product", x.holds(0, 0, 9, 3), 0);
        due.is("another edition", x.holds(0, 7, 0, 3), 0);
        due.is("another role", x.holds(0, 7, 9, 0), 0);
        due.is("joined", x.holds(3, 7, 9, 3), 1);
        due.is("joined, of one part alone", x.holds(3, 0, 0, 0), 0);
        due.is("joined, nowhere", x.holds(4, 7, 9, 3), 0);
        int[][] outside = {{-1, 0, 0}, {8, 0, 0}, {0, -1, 0}, {0, 10, 0}, {0, 0, -1}, {0, 0, 4}, {32, 0, 0},
            {LEAST, 0, 0}, {0, MOST, 0}};
        for (int[] c : outside) {
            due.is("outside", x.holds(0, c[0], c[1], c[2]), OUTSIDE);
        }
        due.is("no answer", x.holds(5, 0, 0, 0), UNKNOWN);
        due.is("UNKNOWN ahead of OUTSIDE", x.holds(-1, 8, 0, 0), UNKNOWN);
        x.move(0, 1);
        due.is("moved", x.holds(0, 7, 9, 3), 0);
        due.is("moved, OUTSIDE", x.holds(0, 8, 9, 3), OUTSIDE);
    }

    private static void count() {
        due.part("15 count");
        AnswerKeeper x = new AnswerKeeper();
        x.answer(1L, 1, 1, 1, 1);
        x.answer(1L, 2, 1, 1, 1);
        x.answer(1L, 3, 2, 1, 1);
        x.answer(1L, 4, 1, 2, 1);
        x.answer(1L, 5, 1, 1, 2);
        x.join(0, 1, NONE, NONE);
        x.join(2, 1, NONE, NONE);
        x.bind(0, 1);
        x.changed(0);
        x.ask(1L, NONE, NONE, NONE);
        x.ask(1L, 7, NONE, NONE);
        x.ask(1L << 9, 7, NONE, NONE);
        x.ask(7L << 20, 7, NONE, NONE);
        int[] wants = {7, 5, 2, 0, 2, 1, 4, 3, 2};
        for (int what = 0; what < 9; what++) {
            due.is("count(" + what + ")", x.count(what), wants[what]);
        }
        x.move(0, 3);
        x.move(6, 3);
        int[] later = {7, 4, 1, 2, 0, 0, 4, 3, 2};
        for (int what = 0; what < 9; what++) {
            due.is("later: count(" + what + ")", x.count(what), later[what]);
        }
        due.is("-1", x.count(-1), OUTSIDE);
        due.is("9", x.count(9), OUTSIDE);
        due.is("most", x.count(MOST), OUTSIDE);
    }

    private static void countQuarrels() {
        due.part("15 count of quarrels");
        AnswerKeeper x = new AnswerKeeper();
        everywhere(x, 0L, 1);
        everywhere(x, 3L, 2);
        everywhere(x, 7L, 3);
        everywhere(x, 0L, 1);
        due.is("far by 2, by 1; not by 3, not with like steps", x.count(5), 3);
        x.rule(0, 3);
        due.is("far by 3", x.count(5), 5);
        x.rule(0, 0);
        due.is("far by 0", x.count(5), 0);
        x.fold(2, 1);
        due.is("folded, far by 0", x.count(5), 1);
        x.fold(0, 5);
        x.fold(1, 5);
        x.fold(2, 5);
        x.rule(0, 1);
        due.is("all folded to one", x.count(5), 5);
        x.join(0, 1, NONE, NONE);
        due.is("joined ones do not quarrel", x.count(5), 5);
        x.move(2, 0);
        due.is("moved ones do not quarrel", x.count(5), 2);
    }

    private static void quarrel() {
        due.part("16 quarrel");
        AnswerKeeper x = new AnswerKeeper();
        x.answer(1L, 4, 0b11000000, 0b1000000001, 0b1000);
        x.answer(1L, 3, 0b11000001, 0b1000000000, 0b1100);
        x.answer(1L, 2, 0b10000000, 0b1000000100, 0b1001);
        x.answer(1L, 2, 0b00000001, 0b1000000000, 0b0100);
        int[][] wants = {{0, 1, 6, 9, 3}, {0, 2, 7, 9, 3}, {1, 2, 7, 9, 3}, {1, 3, 0, 9, 2}};
        due.is("four pairs", x.count(5), 4);
        for (int i = 0; i < 4; i++) {
            for (int what = 0; what < 5; what++) {
                due.is("quarrel(" + i + ", " + what + ")", x.quarrel(i, what), wants[i][what]);
            }
        }
        due.is("none such", x.quarrel(4, 0), NONE);
        due.is("none such", x.quarrel(-1, 4), NONE);
        due.is("none such", x.quarrel(LEAST, 2), NONE);
        due.is("none such", x.quarrel(MOST, 3), NONE);
        due.is("what", x.quarrel(0, 5), OUTSIDE);
        due.is("what", x.quarrel(0, -1), OUTSIDE);
        due.is("what, and none such", x.quarrel(9, 5), OUTSIDE);
        x.move(0, 2);
        due.is("the moved one is out of it", x.quarrel(0, 0), 1);
        due.is("the moved one is out of it", x.quarrel(0, 1), 2);
    }

    private static void ask() {
        due.part("17 ask");
        AnswerKeeper x = new AnswerKeeper();
        due.is("words -1", x.ask(-1L, 0, 0, 0), OUTSIDE);
        due.is("words 2^40", x.ask(1L << 40, 0, 0, 0), OUTSIDE);
        int[][] outside = {{-2, 0, 0}, {8, 0, 0}, {0, -2, 0}, {0, 10, 0}, {0, 0, -2}, {0, 0, 4}, {LEAST, 0, 0},
            {0, MOST, 0}, {32, 0, 0}, {31, 0, 0}};
        for (int[] c : outside) {
            due.is("outside", x.ask(1L, c[0], c[1], c[2]), OUTSIDE);
        }
        due.is("nothing came of them", x.count(6), 0);
        due.is("the most", x.ask(ALL_WORDS, 7, 9, 3), 0);
        due.is("the least", x.ask(0L, NONE, NONE, NONE), 1);
        for (int k = 2; k < 30; k++) {
            due.is("ask", x.ask(1L << k, 0, 0, 0), k);
        }
        due.is("the 31st", x.ask(1L, 0, 0, 0), FULL);
        due.is("OUTSIDE ahead of FULL", x.ask(1L, 8, 0, 0), OUTSIDE);
        due.is("30 of them", x.count(6), 30);
        due.is("no 31st", x.asked(30, 0), UNKNOWN);
        everywhere(x, 1L << 29, 1);
        due.is("the last one's words", x.cost(29, 0), 0);
        due.is("the first one's words", x.cost(0, 0), 390);
    }

    private static void found() {
        due.part("18 found");
        AnswerKeeper x = new AnswerKeeper();
        x.answer(1L, 1, 1, 1023, 15);
        x.answer(1L, 1, 255, 1, 15);
        x.answer(1L, 1, 255, 1023, 1);
        x.answer(1L, 1, 255, 1023, 15);
        x.ask(1L, NONE, NONE, NONE);
        int[][] wants = {{3, 0, NONE}, {0, 5, 0}, {1, 5, 1}, {2, 5, 2}};
        for (int i = 0; i < 4; i++) {
            for (int what = 0; what < 3; what++) {
                due.is("found(0, " + i + ", " + what + ")", x.found(0, i, what), wants[i][what]);
            }
        }
        due.is("none such", x.found(0, 4, 0), NONE);
        due.is("none such", x.found(0, -1, 1), NONE);
        due.is("none such", x.found(0, MOST, 2), NONE);
        due.is("what", x.found(0, 0, 3), OUTSIDE);
        due.is("what", x.found(0, 0, -1), OUTSIDE);
        due.is("what, and none such", x.found(0, 4, 3), OUTSIDE);
        due.is("no ask", x.found(1, 0, 0), UNKNOWN);
        due.is("no ask, ahead of OUTSIDE", x.found(-1, 0, 3), UNKNOWN);
        x.ask(1L, 0, 0, NONE);
        due.is("told ones are no question", x.found(1, 0, 0), 0);
        due.is("the only question", x.found(1, 3, 0), 2);
        due.is("the only question", x.found(1, 3, 2), 2);
        x.ask(1L, 1, NONE, NONE);
        due.is("not fit, not found", x.asked(2, 3), 3);
        x.ask(1L, NONE, 5, NONE);
        due.is("told the edition: not fit", x.cost(3, 1), NOT);
        due.is("told the edition: a question of products", x.found(3, 1, 2), 0);
        due.is("told the edition: a question of roles", x.found(3, 2, 2), 2);
        x.ask(1L, NONE, NONE, 3);
        due.is("told the role: not fit", x.cost(4, 2), NOT);
        due.is("told the role: a question of editions", x.found(4, 2, 2), 1);
        x.ask(1L, 0, 9, 2);
        due.is("told all: not fit", x.cost(5, 2), NOT);
        due.is("told all: fit", x.cost(5, 0), 0);
    }

    private static void foundOrder() {
        due.part("18 found, order and limit");
        AnswerKeeper x = new AnswerKeeper();
        everywhere(x, 0b1111L, 1);
        everywhere(x, 0b0111L, 1);
        everywhere(x, 0b1011L, 1);
        everywhere(x, 0b0011L, 1);
        x.ask(3L, NONE, NONE, NONE);
        int[] order = {3, 1, 2, 0};
        int[] costs = {0, 3, 3, 6};
        for (int i = 0; i < 4; i++) {
            due.is("by cost, then by number", x.found(0, i, 0), order[i]);
            due.is("by cost, then by number", x.found(0, i, 1), costs[i]);
        }
        x.rule(1, 3);
        due.is("at most the limit", x.asked(0, 3), 3);
        x.rule(1, 2);
        due.is("at most the limit", x.asked(0, 3), 1);
        x.rule(1, 0);
        due.is("at most the limit", x.asked(0, 3), 1);
        x.move(3, 1);
        due.is("moved ones are not found", x.asked(0, 3), 0);
        x.rule(1, 200);
        due.is("moved ones are not found", x.asked(0, 3), 3);
        x.vote(0, true);
        x.vote(0, true);
        x.vote(0, true);
        due.is("of like costs the least number", x.found(0, 0, 0), 0);
        x.vote(2, true);
        due.is("less votes", x.found(0, 0, 0), 2);
        due.is("less votes", x.found(0, 0, 1), 2);
    }

    private static void cost() {
        due.part("19 cost");
        AnswerKeeper x = new AnswerKeeper();
        x.answer(0b0110L, 1, 3, 1023, 15);
        x.answer(1L, 1, 3, 1, 15);
        x.answer(1L, 1, 4, 2, 15);
        x.join(1, 2, NONE, NONE);
        x.ask(0b11010L, 0, NONE, NONE);
        x.ask(0b11010L, NONE, NONE, NONE);
        due.is("2 missing, 1 spare", x.cost(0, 0), 23);
        due.is("a question", x.cost(1, 0), 28);
        due.is("above the limit, told all the same", x.asked(1, 3), 0);
        due.is("not fit", x.cost(0, 2), NOT);
        due.is("an empty set", x.cost(1, 3), NOT);
        due.is("no ask", x.cost(2, 0), UNKNOWN);
        due.is("no answer", x.cost(0, 4), UNKNOWN);
        due.is("neither", x.cost(-1, -1), UNKNOWN);
        due.is("UNKNOWN ahead of NOT", x.cost(2, 2), UNKNOWN);
        x.move(0, 1);
        due.is("moved", x.cost(0, 0), NOT);
    }

    private static void costParts() {
        due.part("19 cost, doubts and votes");
        AnswerKeeper x = new AnswerKeeper();
        everywhere(x, 1L, 1);
        everywhere(x, 2L, 1);
        x.join(0, 1, NONE, NONE);
        x.ask(1L, NONE, NONE, NONE);
        x.bind(1, 1);
        x.changed(0);
        x.changed(0);
        due.is("not doubted", x.cost(0, 0), 0);
        due.is("doubted", x.cost(0, 1), 28);
        due.is("joined, doubted", x.cost(0, 2), 18);
        for (int k = 1; k <= 11; k++) {
            x.vote(0, true);
            due.is("votes up", x.cost(0, 0), -Math.min(k, 9));
        }
        for (int k = 1; k <= 11; k++) {
            x.vote(2, false);
            due.is("votes down", x.cost(0, 2), 18 + Math.min(k, 9));
        }
        due.is("a cost below 0 is found", x.found(0, 0, 1), -9);
        x.rule(1, 0);
        due.is("a cost below 0 is found", x.asked(0, 3), 1);
        x.confirm(1);
        due.is("sure again", x.cost(0, 2), 12);
    }

    private static void asked() {
        due.part("20 asked");
        AnswerKeeper x = new AnswerKeeper();
        everywhere(x, 3L, 1);
        everywhere(x, 1L, 1);
        x.ask(1L, NONE, NONE, NONE);
        x.ask(7L << 5, NONE, NONE, NONE);
        int[][] wants = {{0, NONE, NONE, 2}, {1, 0, NONE, 0}};
        for (int k = 0; k < 2; k++) {
            for (int what = 0; what < 4; what++) {
                due.is("asked(" + k + ", " + what + ")", x.asked(k, what), wants[k][what]);
            }
        }
        due.is("-1", x.asked(0, -1), OUTSIDE);
        due.is("4", x.asked(0, 4), OUTSIDE);
        due.is("no ask", x.asked(2, 0), UNKNOWN);
        due.is("no ask, ahead of OUTSIDE", x.asked(-1, 4), UNKNOWN);
        x.rule(1, 33);
        due.is("as all is now", x.asked(1, 0), 0);
        due.is("as all is now", x.asked(1, 1), NONE);
        due.is("as all is now", x.asked(1, 3), 1);
        x.move(1, 0);
        due.is("a moved one is not found", x.asked(1, 0), 1);
    }

    private static void heaps() {
        due.part("20 heaps");
        AnswerKeeper x = new AnswerKeeper();
        x.ask(0b111111111L, 0, 0, 0);
        x.ask(0b000000000L, 0, 0, 0);
        x.ask(0b001111111L, 1, 1, 1);
        x.ask(0b000000011L, 2, 2, 2);
        x.ask(0b000011111L, 3, 3, 3);
        due.is("7 and 5 are near, 9 and 7, 0 and 2; not 2 and 5", x.count(8), 2);
        int[] first = {0, 1, 0, 1, 0};
        for (int k = 0; k < 5; k++) {
            due.is("heap of " + k, x.asked(k, 1), first[k]);
        }
        x.ask(0b000001111L, NONE, NONE, NONE);
        due.is("one between them: on from one to the next", x.count(8), 1);
        for (int k = 0; k < 6; k++) {
            due.is("one heap", x.asked(k, 1), 0);
        }
        x.rule(0, 1);
        due.is("nearer", x.count(8), 5);
        int[] apart = {0, 1, 2, 3, 4, 4};
        for (int k = 0; k < 6; k++) {
            due.is("numbered by the least", x.asked(k, 1), apart[k]);
        }
        x.rule(1, 0);
        x.answer(0b111111111L, 1, 1, 1, 1);
        due.is("one that finds is in no heap", x.asked(0, 1), NONE);
        due.is("numbers move up", x.asked(1, 1), 0);
        due.is("numbers move up", x.asked(5, 1), 3);
        for (int w = 1; w < 9; w++) {
            x.fold(w, 0);
        }
        due.is("folded, all are far by at most 1", x.count(8), 1);
        x.rule(0, 0);
        due.is("folded, and one has no words", x.count(8), 2);
        due.is("folded, and one has no words", x.asked(1, 1), 0);
        due.is("folded, and one has no words", x.asked(2, 1), 1);
        due.is("folded, and one has no words", x.asked(5, 1), 1);
    }

    private static void heapsApart() {
        due.part("20 heaps apart");
        AnswerKeeper x = new AnswerKeeper();
        x.ask(0b1L, 0, 0, 0);
        x.ask(0b11L, 0, 0, 0);
        x.ask(0b111L << 10, 0, 0, 0);
        x.ask(0b1111L << 10, 0, 0, 0);
        x.ask(0b111L << 20, 0, 0, 0);
        due.is("three heaps", x.count(8), 3);
        int[] wants = {0, 0, 1, 1, 2};
        for (int k = 0; k < 5; k++) {
            due.is("heap of " + k, x.asked(k, 1), wants[k]);
        }
        AnswerKeeper y = new AnswerKeeper();
        y.ask(0b0L, 0, 0, 0);
        y.ask(0b11L, 1, 1, 1);
        y.ask(0b1111L, 0, 0, 0);
        due.is("one between them", y.count(8), 1);
        y.answer(0b11L, 1, 2, 2, 2);
        due.is("the one between them finds: no way by it", y.count(8), 2);
        due.is("the first heap", y.asked(0, 1), 0);
        due.is("in no heap", y.asked(1, 1), NONE);
        due.is("the second heap", y.asked(2, 1), 1);
    }

    private static void help() {
        due.part("20 help");
        AnswerKeeper z = new AnswerKeeper();
        everywhere(z, 1L | 1L << 1, 1);
        z.rule(1, 3);
        z.ask(0L, 0, 0, 0);
        due.is("the least word of all", z.asked(0, 2), 0);
        AnswerKeeper x = new AnswerKeeper();
        x.answer(0b1111100L, 1, 1, 1023, 15);
        x.ask(0b0011000L, 0, 0, 0);
        due.is("found: no help", x.asked(0, 2), NONE);
        x.rule(1, 8);
        due.is("9 is too dear: the least word that helps", x.asked(0, 2), 2);
        x.rule(1, 6);
        due.is("6 will do", x.asked(0, 2), 2);
        x.rule(1, 5);
        due.is("no word will do", x.asked(0, 2), NONE);
        due.is("in vain", x.asked(0, 0), 1);
        x.rule(1, 6);
        x.fold(1, 6);
        due.is("by the book", x.asked(0, 2), 1);
        x.fold(6, 7);
        due.is("the word is no other's by now", x.asked(0, 2), 2);
        x.ask(0b1L, 1, 0, 0);
        due.is("not fit: no help", x.asked(1, 2), NONE);
        AnswerKeeper y = new AnswerKeeper();
        everywhere(y, 1L << 39, 1);
        y.rule(1, 2);
        y.ask(0L, 0, 0, 0);
        due.is("the greatest word", y.asked(0, 2), 39);
        y.fold(39, 39);
        y.ask(1L << 20, 0, 0, 0);
        y.fold(20, 39);
        due.is("its own words do not help, they find", y.asked(1, 0), 0);
        due.is("the least of two words", y.asked(0, 2), 20);
    }
}
