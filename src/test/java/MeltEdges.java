/** Sentences on answers that quarrel and on doubles that are melted. */
final class MeltEdges extends Edges {
    MeltEdges(Due due, Quotes doc) {
        super(due, doc);
    }

    @Override
    void run() {
        far();
        alike();
        meet();
        quarrelling();
        leastCase();
        quarrel();
        quarrelOrder();
        quarrelRefused();
        likeSteps();
        likeSets();
        meltedHas();
        meltedSure();
        meltedVotes();
        meltedMoved();
        melt();
        meltRefused();
    }

    private void far() {
        doc.says("Terms", "FAR of two SETS of WORDS, both FOLDED: how many WORDS are in just one of them.");
        long[][] pairs = {{0, 0, 0}, {0, 1, 1}, {1, 0, 1}, {1, 2, 2}, {3, 6, 2}, {7, 7, 0}, {0, 1L << 39, 1},
            {0, 1023, 10}, {1023, 0, 10}, {31, 31L << 35, 10}, {ALL_WORDS, ALL_WORDS ^ 1023L << 20, 10}};
        for (long[] pair : pairs) {
            due.is("far of " + pair[0] + " and " + pair[1], least(twoAnswers(pair[0], pair[1])), pair[2]);
        }
        AnswerKeeper x = twoAnswers(0b0111, 0b1000);
        due.is("not folded", least(x), 4);
        x.fold(0, 20);
        due.is("one to a word of none", least(x), 4);
        x.fold(1, 20);
        due.is("two to one", least(x), 3);
        x.fold(3, 20);
        due.is("both are folded", least(x), 1);
        x.fold(2, 20);
        due.is("all to one", least(x), 0);
        x.fold(20, 21);
        due.is("once alone", least(x), 0);
    }

    private static AnswerKeeper twoAnswers(long words, long others) {
        AnswerKeeper x = new AnswerKeeper();
        everywhere(x, words, 1);
        everywhere(x, others, 2);
        return x;
    }

    /** The least NEAR with which 0 and 1 quarrel; 11 if there is none. */
    private int least(AnswerKeeper x) {
        int least = 11;
        for (int near = 10; near >= 0; near--) {
            x.rule(0, near);
            least = x.count(5) > 0 ? near : least;
            due.is("they do not quarrel with a lesser one only", x.count(5), least == near ? 1 : 0);
        }
        return least;
    }

    private void alike() {
        doc.says("Terms", "Two PLAIN ANSWERS are ALIKE, if FAR of their WORDS is at most NEAR (0 .. 10; 2 at first);");
        AnswerKeeper x = twoAnswers(0, 3);
        due.is("far by 2, at first", x.count(5), 1);
        AnswerKeeper y = twoAnswers(0, 7);
        due.is("far by 3, at first", y.count(5), 0);
        due.is("NEAR -1", y.rule(0, -1), OUTSIDE);
        due.is("NEAR 11", y.rule(0, 11), OUTSIDE);
        AnswerKeeper z = twoAnswers(0, firstWords(11));
        z.rule(0, 10);
        due.is("far by 11, at most", z.count(5), 0);
        everywhere(z, 1, 3);
        due.is("far by 10, at most", z.count(5), 2);
        z.rule(0, 9);
        due.is("far by 1", z.count(5), 1);
        z.rule(0, 0);
        due.is("far by 1, at least", z.count(5), 0);
        everywhere(z, 1, 4);
        due.is("far by 0, at least", z.count(5), 1);
        z.join(0, 2, NONE, NONE);
        due.is("a joined one is like none", z.count(5), 1);
        z.move(3, 0);
        due.is("a moved one is like none", z.count(5), 0);
    }

    private void meet() {
        doc.says("Terms", "they MEET, if for each ASPECT their SETS have a VALUE in common;");
        int[][] cases = {{255, 1023, 15, 255, 1023, 15, 1}, {128, 512, 8, 128, 512, 8, 1}, {1, 1, 1, 1, 1, 1, 1},
            {127, 1023, 15, 128, 1023, 15, 0}, {255, 511, 15, 255, 512, 15, 0}, {255, 1023, 7, 255, 1023, 8, 0},
            {254, 1023, 15, 1, 1023, 15, 0}, {255, 1022, 15, 255, 1, 15, 0}, {255, 1023, 14, 255, 1023, 1, 0},
            {129, 513, 9, 128, 512, 8, 1}, {129, 513, 9, 130, 514, 10, 1}, {85, 341, 5, 170, 682, 10, 0}};
        for (int[] c : cases) {
            AnswerKeeper x = new AnswerKeeper();
            x.answer(1, 1, c[0], c[1], c[2]);
            x.answer(1, 2, c[3], c[4], c[5]);
            due.is("sets " + java.util.Arrays.toString(c), x.count(5), c[6]);
        }
    }

    private void quarrelling() {
        doc.says("Terms", "they QUARREL, if they are ALIKE, MEET, and have unlike STEPS:");
        int[][] steps = {{0, 0, 0}, {9999, 9999, 0}, {0, 1, 1}, {1, 0, 1}, {0, 9999, 1}, {9998, 9999, 1}};
        for (int[] s : steps) {
            AnswerKeeper x = new AnswerKeeper();
            everywhere(x, 1, s[0]);
            everywhere(x, 1, s[1]);
            due.is("steps " + s[0] + " and " + s[1], x.count(5), s[2]);
            due.is("told", x.quarrel(0, 0), s[2] == 1 ? 0 : NONE);
        }
        AnswerKeeper y = new AnswerKeeper();
        y.answer(1, 1, 1, 1, 1);
        y.answer(1 << 20, 2, 2, 2, 2);
        y.answer(7L << 30, 3, 1, 1, 1);
        due.is("alike, they do not meet; meet, not alike", y.count(5), 0);
        y.answer(1, 4, 3, 3, 3);
        due.is("with 0 and 1, not 2", y.count(5), 2);
    }

    private void leastCase() {
        doc.says("Terms", "the CASE told is the least VALUE in common for each ASPECT.");
        for (int k = 0; k < 40; k++) {
            AnswerKeeper x = new AnswerKeeper();
            int p = k % 8;
            int e = k % 10;
            int r = k % 4;
            x.answer(1, 1, 255 & -1 << p, 1023 & -1 << e, 15 & -1 << r);
            x.answer(1, 2, 1 << p | 128 | (1 << p) - 1, 1 << e | 512 | (1 << e) - 1, 1 << r | 8 | (1 << r) - 1);
            due.is("the least product", x.quarrel(0, 2), p);
            due.is("the least edition", x.quarrel(0, 3), e);
            due.is("the least role", x.quarrel(0, 4), r);
        }
    }

    private void quarrel() {
        doc.says("Promise 16", "The i-th pair that QUARRELS");
        AnswerKeeper x = withAnswers(22);
        everywhere(x, 1L << 39, 5);
        everywhere(x, 1L << 39, 6);
        x.rule(0, 0);
        due.is("the last two: the lesser", x.quarrel(0, 0), 22);
        due.is("the last two: the greater", x.quarrel(0, 1), 23);
        due.is("one alone", x.quarrel(1, 0), NONE);
    }

    private void quarrelOrder() {
        doc.says("Promise 16", "(by the lesser number, then the greater one): what = 0, 1 both, 2 to 4 the CASE.");
        AnswerKeeper x = new AnswerKeeper();
        for (int a = 0; a < 24; a++) {
            x.answer(0, 24 - a, 128 | 1 << a % 7, 512, 1 | 2 << a % 3);
        }
        int i = 0;
        for (int a = 0; a < 24; a++) {
            for (int b = a + 1; b < 24 && i < 80; b++) {
                due.is("the lesser of pair " + i, x.quarrel(i, 0), a);
                due.is("the greater of pair " + i, x.quarrel(i, 1), b);
                due.is("product of pair " + i, x.quarrel(i, 2), a % 7 == b % 7 ? a % 7 : 7);
                due.is("edition of pair " + i, x.quarrel(i, 3), 9);
                due.is("role of pair " + i, x.quarrel(i, 4), 0);
                i++;
            }
        }
        due.is("the last of 276", x.quarrel(275, 0), 22);
        due.is("the last of 276", x.quarrel(275, 1), 23);
        due.is("no more", x.quarrel(276, 0), NONE);
        due.is("the first after 23 of 0", x.quarrel(23, 0), 1);
        due.is("the last of 0", x.quarrel(22, 1), 23);
        x.move(0, 1);
        due.is("numbers move up", x.quarrel(0, 0), 1);
        due.is("numbers move up", x.quarrel(252, 1), 23);
        due.is("253 are left", x.quarrel(253, 1), NONE);
    }

    private void quarrelRefused() {
        doc.says("Promise 16", "NONE: there is none such; OUTSIDE: what.");
        AnswerKeeper x = twoAnswers(1, 1);
        int[] wrong = {-1, 5, 6, 16, 32, 256, LEAST, MOST};
        for (int what : wrong) {
            due.is("what " + what, x.quarrel(0, what), OUTSIDE);
            due.is("OUTSIDE, though there is none such", x.quarrel(1, what), OUTSIDE);
            due.is("OUTSIDE, though there is none at all", new AnswerKeeper().quarrel(0, what), OUTSIDE);
        }
        int[] none = {-1, 1, 2, 256, LEAST, MOST};
        for (int i : none) {
            for (int what = 0; what <= 4; what++) {
                due.is("pair " + i, x.quarrel(i, what), NONE);
            }
        }
        due.is("none at all", new AnswerKeeper().quarrel(0, 0), NONE);
        due.is("what 0", x.quarrel(0, 0), 0);
        due.is("what 4", x.quarrel(0, 4), 0);
    }

    private void likeSteps() {
        doc.says("Terms", "TO MELT b into a, both PLAIN, with like STEPS:");
        AnswerKeeper x = new AnswerKeeper();
        int[] steps = {0, 1, 9998, 9999, 0};
        for (int s : steps) {
            everywhere(x, 1, s);
        }
        x.join(0, 4, NONE, NONE);
        x.join(0, 4, NONE, NONE);
        for (int a = 0; a < 4; a++) {
            for (int b = a + 1; b < 4; b++) {
                due.is("unlike steps", x.melt(a, b), NOT);
                due.is("unlike steps", x.melt(b, a), NOT);
            }
        }
        due.is("a is joined", x.melt(5, 0), NOT);
        due.is("b is joined", x.melt(0, 5), NOT);
        due.is("both are joined", x.melt(5, 6), NOT);
        due.is("like steps, far words or not", x.melt(0, 4), 1);
        due.is("b is moved", x.melt(0, 4), NOT);
        due.is("a is moved", x.melt(4, 0), NOT);
    }

    private void likeSets() {
        doc.says("Terms", "their SETS must be like for two ASPECTS at least, or those of b all within those of a, or "
                + "those of a all within those of b:");
        int[][] cases = {{3, 3, 3, 3, 3, 3, 1}, {3, 3, 3, 12, 3, 3, 1}, {3, 3, 3, 3, 12, 3, 1}, {3, 3, 3, 3, 3, 12, 1},
            {3, 3, 3, 6, 3, 3, 1}, {3, 3, 3, 3, 6, 3, 1}, {3, 3, 3, 3, 3, 6, 1},
            {3, 3, 3, 3, 6, 6, 0}, {3, 3, 3, 6, 3, 6, 0}, {3, 3, 3, 6, 6, 3, 0}, {3, 3, 3, 6, 6, 6, 0},
            {3, 3, 3, 3, 1, 1, 1}, {3, 3, 3, 1, 3, 1, 1}, {3, 3, 3, 1, 1, 3, 1}, {3, 3, 3, 1, 1, 1, 1},
            {3, 3, 3, 3, 7, 7, 1}, {3, 3, 3, 7, 3, 7, 1}, {3, 3, 3, 7, 7, 3, 1}, {3, 3, 3, 7, 7, 7, 1},
            {3, 3, 3, 3, 1, 7, 0}, {3, 3, 3, 7, 3, 1, 0}, {3, 3, 3, 1, 7, 3, 0}, {3, 3, 3, 1, 1, 7, 0},
            {3, 3, 3, 1, 7, 1, 0}, {3, 3, 3, 7, 1, 1, 0}, {3, 3, 3, 7, 7, 1, 0}, {3, 3, 3, 1, 1, 6, 0},
            {3, 3, 3, 6, 7, 7, 0}, {3, 3, 3, 7, 7, 12, 0},
            {255, 1023, 15, 128, 512, 8, 1}, {127, 511, 7, 255, 1023, 15, 1}, {127, 511, 7, 128, 512, 8, 0}};
        for (int[] c : cases) {
            for (int turned = 0; turned < 2; turned++) {
                AnswerKeeper x = new AnswerKeeper();
                x.answer(1, 1, c[0], c[1], c[2]);
                x.answer(1, 1, c[3], c[4], c[5]);
                String name = "sets " + java.util.Arrays.toString(c);
                due.is(name, x.melt(turned, 1 - turned), c[6] == 1 ? 1 : NOT);
                for (int aspect = 0; aspect < 3; aspect++) {
                    int before = c[3 * turned + aspect];
                    due.is(name + ", then", x.told(turned, 3 + aspect), c[6] == 1 ? c[aspect] | c[3 + aspect] : before);
                }
                due.is(name + ", moved", x.count(3), c[6]);
            }
        }
    }

    private void meltedHas() {
        doc.says("Terms", "then a has all WORDS of both, for each ASPECT the VALUES of both, all THINGS of both;");
        AnswerKeeper x = new AnswerKeeper();
        x.answer(1 | 4, 9999, 1, 512, 15);
        x.answer(4 | 1L << 39, 9999, 128, 512, 15);
        x.answer(0, 9999, 255, 1023, 15);
        x.answer(2, 9999, 4, 4, 1);
        x.bind(0, 5);
        x.bind(1, 516);
        x.bind(3, 2);
        x.melt(0, 1);
        has(x, 0, 5 | 1L << 39, 129, 512, 15, 517);
        has(x, 1, 4 | 1L << 39, 128, 512, 15, 516);
        x.melt(2, 0);
        has(x, 2, 5 | 1L << 39, 255, 1023, 15, 517);
        has(x, 0, 5 | 1L << 39, 129, 512, 15, 517);
        x.melt(3, 2);
        has(x, 3, 7 | 1L << 39, 255, 1023, 15, 519);
        due.is("its steps", x.told(3, 2), 9999);
        due.is("it holds where the other did", x.holds(3, 7, 9, 3), 1);
        askOpen(x, 1L << 39 | 7);
        due.is("asks find it by all words", x.found(0, 0, 0), 3);
        due.is("asks find it by all words", x.found(0, 0, 1), 0);
        AnswerKeeper y = new AnswerKeeper();
        everywhere(y, 1, 1);
        everywhere(y, 2 | 4, 1);
        y.fold(0, 10);
        y.fold(1, 10);
        y.fold(2, 10);
        y.melt(0, 1);
        due.is("words as they came, not folded", y.words(0), 7);
        y.fold(2, 2);
        askOpen(y, 4 | 1 << 10);
        due.is("folded anew", y.cost(0, 0), 0);
    }

    private void has(AnswerKeeper x, int a, long words, int products, int editions, int roles, int things) {
        due.is("words of " + a, x.words(a), words);
        due.is("products of " + a, x.told(a, 3), products);
        due.is("editions of " + a, x.told(a, 4), editions);
        due.is("roles of " + a, x.told(a, 5), roles);
        due.is("things of " + a, x.told(a, 6), things);
    }

    private void meltedSure() {
        doc.says("Terms", "it is SURE since the earlier one of both times;");
        for (int n = 0; n < 4; n++) {
            int a = n % 2;
            boolean boundBoth = n < 2;
            AnswerKeeper x = new AnswerKeeper();
            everywhere(x, 1, 1);
            x.changed(0);
            everywhere(x, 2, 1);
            x.changed(1);
            x.bind(1, 1);
            x.bind(0, boundBoth ? 4 : 0);
            due.is("b was sure since the change, a is not bound to it", x.count(4), 0);
            x.melt(a, 1 - a);
            due.is("sure since the earlier one: the change is after that", x.told(a, 7), 1);
            due.is("b, moved, is not doubted", x.told(1 - a, 7), 0);
            x.bind(a, 2);
            due.is("the change after both", x.told(a, 7), 1);
            x.bind(a, 8);
            due.is("no change", x.told(a, 7), 0);
            x.bind(a, 1);
            due.is("it was doubted", x.confirm(a), 1);
            due.is("sure from now on", x.told(a, 7), 0);
        }
        AnswerKeeper y = new AnswerKeeper();
        y.changed(0);
        everywhere(y, 1, 1);
        everywhere(y, 2, 1);
        y.bind(0, 1);
        y.bind(1, 2);
        y.melt(0, 1);
        due.is("both since then", y.told(0, 7), 0);
        y.changed(1);
        due.is("bound to the thing of b", y.told(0, 7), 1);
        everywhere(y, 4, 1);
        y.changed(3);
        y.confirm(2);
        y.melt(2, 0);
        y.confirm(2);
        y.bind(2, 8);
        due.is("confirmed since", y.told(2, 7), 0);
        for (int a = 0; a < 2; a++) {
            AnswerKeeper z = new AnswerKeeper();
            z.changed(5);
            everywhere(z, 1, 1);
            everywhere(z, 2, 1);
            z.bind(0, 1);
            z.bind(1, 1);
            z.changed(0);
            z.confirm(a);
            due.is("both bound to one thing, one of them doubted", z.count(4), 1);
            z.melt(a, 1 - a);
            due.is("doubted by the time of the other one", z.told(a, 7), 1);
            z.bind(a, 1 << 5);
            due.is("that time, not an earlier one", z.told(a, 7), 0);
            z.bind(a, 1 << 6);
            due.is("a thing that never changed", z.told(a, 7), 0);
        }
    }

    private void meltedVotes() {
        doc.says("Terms", "VOTES are added;");
        int[][] votes = {{0, 0}, {3, 4}, {3, -4}, {-3, 4}, {-3, -4}, {12, 15}, {-12, -15}, {0, 7}, {7, 0}};
        for (int[] v : votes) {
            AnswerKeeper x = new AnswerKeeper();
            for (int a = 0; a < 2; a++) {
                everywhere(x, 1, 1);
                for (int n = 0; n < Math.abs(v[a]); n++) {
                    x.vote(a, v[a] > 0);
                }
            }
            x.melt(0, 1);
            due.is("votes of " + v[0] + " and " + v[1], x.told(0, 8), v[0] + v[1]);
            due.is("those of b stay", x.told(1, 8), v[1]);
            due.is("one more", x.vote(0, true), v[0] + v[1] + 1);
        }
    }

    private void meltedMoved() {
        doc.says("Terms", "b is MOVED to a.");
        AnswerKeeper x = new AnswerKeeper();
        for (int a = 0; a < 5; a++) {
            everywhere(x, 1L << a, 1);
        }
        x.join(1, 2, 4, NONE);
        x.move(3, 1);
        x.melt(0, 1);
        due.is("b's kind", x.told(1, 0), 2);
        due.is("b's end", x.told(1, 1), 0);
        due.is("the end of one that was moved to b", x.told(3, 1), 0);
        due.is("as a part", x.told(5, 10), 0);
        due.is("words of the joined one", x.words(5), 1 | 2 | 4 | 16);
        x.melt(4, 2);
        due.is("two parts are one", x.told(5, 11), 4);
        due.is("two parts are one", x.told(5, 12), 4);
        due.is("three parts all the same", x.told(5, 9), 3);
        due.is("a is not moved", x.told(0, 0), 0);
        due.is("three are moved", x.count(3), 3);
        due.is("b is not used", x.holds(1, 0, 0, 0), 0);
        due.is("b takes no votes", x.vote(1, true), NOT);
        due.is("a into b's own end", x.move(0, 3), NOT);
    }

    private void melt() {
        doc.says("Promise 10", "b is MELTED into a: 1.");
        AnswerKeeper x = new AnswerKeeper();
        for (int a = 0; a < 24; a++) {
            everywhere(x, 1L << a, 1);
        }
        for (int a = 23; a > 0; a--) {
            due.is("melt(" + (a - 1) + ", " + a + ")", x.melt(a - 1, a), 1);
        }
        due.is("all words", x.words(0), firstWords(24));
        due.is("one is left", x.count(1), 1);
        for (int a = 0; a < 24; a++) {
            due.is("the end of " + a, x.told(a, 1), 0);
        }
        due.is("the last one has its own", x.words(23), 1L << 23);
        due.is("the one ahead has both", x.words(22), 3L << 22);
    }

    private void meltRefused() {
        doc.says("Promise 10", "UNKNOWN; NOT: they are one, or not as told.");
        AnswerKeeper x = new AnswerKeeper();
        for (int a = 0; a < 4; a++) {
            everywhere(x, 1L << a, 1);
        }
        x.answer(1, 1, 1, 1, 1);
        x.answer(1, 1, 2, 2, 1);
        x.join(0, 1, NONE, NONE);
        x.move(3, 2);
        int[] none = {-1, 7, 23, 24, 32, LEAST, MOST};
        for (int a : none) {
            due.is("no a " + a, x.melt(a, 0), UNKNOWN);
            due.is("no b " + a, x.melt(0, a), UNKNOWN);
            due.is("the same unknown", x.melt(a, a), UNKNOWN);
            due.is("UNKNOWN ahead of NOT: joined", x.melt(6, a), UNKNOWN);
            due.is("UNKNOWN ahead of NOT: moved", x.melt(a, 3), UNKNOWN);
        }
        for (int a = 0; a < 7; a++) {
            due.is("they are one", x.melt(a, a), NOT);
            due.is("joined", x.melt(6, a), NOT);
            due.is("joined", x.melt(a, 6), NOT);
            due.is("moved", x.melt(3, a), NOT);
            due.is("moved", x.melt(a, 3), NOT);
        }
        due.is("sets not as told", x.melt(4, 5), NOT);
        due.is("nothing is moved by these", x.count(3), 1);
        due.is("words as they were", x.words(0), 1);
        due.is("as told", x.melt(0, 4), 1);
    }
}
