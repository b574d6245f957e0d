import java.util.Random;

/** The document's first sentences, and its last: what the keeper is, told by what follows from all promises at once. */
final class SummaryEdges extends Edges {
    private static final int PAIRS = 300;

    SummaryEdges(Due due, Quotes doc) {
        super(due, doc);
    }

    @Override
    void run() {
        answers();
        kinds();
        doubtedAsSoon();
        foundByCosts();
        oneQuestion();
        quarrelsHaveACase();
        casesKeepTheirSteps();
        heaped();
        wordThatHelps();
        afterTheLast();
        notPromised();
    }

    private void answers() {
        doc.says("What it is", "A keeper of answers already given: answers with words, with cases in which they hold, "
                + "with steps;");
        AnswerKeeper x = new AnswerKeeper();
        int a = x.answer(0b101, 42, 0b11, 0b100, 0b1000);
        due.is("its words", x.words(a), 0b101);
        due.is("a case in which it holds", x.holds(a, 1, 2, 3), 1);
        due.is("a case in which it does not", x.holds(a, 2, 2, 3), 0);
        due.is("its steps", x.told(a, 2), 42);
    }

    private void kinds() {
        doc.says("What it is", "some joined of parts, some moved on to others, some bound to things");
        AnswerKeeper x = withAnswers(3);
        x.join(0, 1, NONE, NONE);
        x.move(2, 3);
        x.bind(1, 4);
        int[] kinds = {0, 0, 2, 1};
        for (int a = 0; a < 4; a++) {
            due.is("the kind of " + a, x.told(a, 0), kinds[a]);
        }
        due.is("joined of 0", x.told(3, 10), 0);
        due.is("moved on to 3", x.told(2, 1), 3);
        due.is("bound to thing 2", x.told(1, 6), 4);
        due.is("bound by its part", x.told(3, 6), 4);
    }

    private void doubtedAsSoon() {
        doc.says("What it is", "and doubted as soon as these change;");
        for (int thing = 0; thing < 10; thing++) {
            AnswerKeeper x = withAnswers(2);
            x.join(0, 1, NONE, NONE);
            x.bind(1, 1 << thing);
            due.is("ahead of the change", x.count(4), 0);
            x.changed(thing);
            due.is("right after it", x.told(1, 7), 1);
            due.is("right after it, joined", x.told(2, 7), 1);
            due.is("bound to none", x.told(0, 7), 0);
        }
    }

    private void foundByCosts() {
        doc.says("What it is", "asks find them by costs,");
        Random random = new Random(1);
        for (int n = 0; n < 40; n++) {
            AnswerKeeper x = drawn(random);
            x.rule(1, 10 + random.nextInt(80));
            int limit = x.rule(1, 0);
            x.rule(1, limit);
            int ask = x.ask(random.nextInt(256), random.nextInt(9) - 1, NONE, random.nextInt(5) - 1);
            int before = LEAST;
            int atMost = 0;
            for (int i = 0; i < x.asked(ask, 3); i++) {
                int a = x.found(ask, i, 0);
                due.is("the cost told is its cost", x.found(ask, i, 1), x.cost(ask, a));
                due.is("no less than the one ahead of it", before <= x.cost(ask, a) ? 1 : 0, 1);
                before = x.cost(ask, a);
            }
            for (int a = 0; a < 12; a++) {
                atMost += x.cost(ask, a) != NOT && x.cost(ask, a) <= limit ? 1 : 0;
            }
            due.is("all of at most the limit", x.asked(ask, 3), atMost);
        }
    }

    /** Ten plain answers and two joined ones, some of them bound to what has changed, some voted for; 27 calls. */
    private static AnswerKeeper drawn(Random random) {
        AnswerKeeper x = new AnswerKeeper();
        for (int a = 0; a < 10; a++) {
            x.answer(random.nextInt(256), random.nextInt(3), 1 + random.nextInt(255), 1 + random.nextInt(1023),
                    1 + random.nextInt(15));
        }
        x.join(0, 1, NONE, NONE);
        x.join(2, 3, 4, NONE);
        for (int n = 0; n < 6; n++) {
            x.vote(random.nextInt(12), random.nextBoolean());
            x.bind(random.nextInt(10), 1 << random.nextInt(4));
        }
        x.changed(0);
        x.changed(1);
        x.confirm(random.nextInt(10));
        return x;
    }

    private void oneQuestion() {
        doc.says("What it is", "or with the one question that settles them;");
        int[] sizes = {8, 10, 4};
        for (int aspect = 0; aspect < 3; aspect++) {
            for (int joined = 0; joined < 2; joined++) {
                AnswerKeeper x = new AnswerKeeper();
                int[] sets = {PRODUCTS, EDITIONS, ROLES};
                sets[aspect] = 0b0110;
                x.answer(1, 1, sets[0], sets[1], sets[2]);
                everywhere(x, 1, 1);
                x.rule(1, 200);
                int a = joined == 0 ? 0 : x.join(1, 0, NONE, NONE);
                askOpen(x, 1);
                due.is("the question", x.found(0, joined == 0 ? 1 : 2, 2), aspect);
                due.is("it costs 5", x.cost(0, a), 5);
                for (int value = 0; value < sizes[aspect]; value++) {
                    int[] told = {NONE, NONE, NONE};
                    told[aspect] = value;
                    int ask = x.ask(1, told[0], told[1], told[2]);
                    due.is("it is settled by value " + value, x.cost(ask, a), value == 1 || value == 2 ? 0 : NOT);
                }
            }
        }
    }

    private void quarrelsHaveACase() {
        doc.says("What it is", "two that quarrel are told with a case,");
        Random random = new Random(2);
        for (int n = 0; n < 20; n++) {
            AnswerKeeper x = drawn(random);
            x.rule(0, 3);
            for (int i = 0; i < Math.min(x.count(5), 40); i++) {
                int a = x.quarrel(i, 0);
                int b = x.quarrel(i, 1);
                due.is("one holds in it", x.holds(a, x.quarrel(i, 2), x.quarrel(i, 3), x.quarrel(i, 4)), 1);
                due.is("so does the other", x.holds(b, x.quarrel(i, 2), x.quarrel(i, 3), x.quarrel(i, 4)), 1);
                due.is("with unlike steps", x.told(a, 2) != x.told(b, 2) ? 1 : 0, 1);
            }
        }
    }

    /** Both are melted just where the cases of both are those of one answer: no case gets steps that it had not. */
    private void casesKeepTheirSteps() {
        doc.says("What it is", "doubles are melted only where each case keeps its steps;");
        Random random = new Random(3);
        int melted = 0;
        for (int n = 0; n < PAIRS; n++) {
            int[] a = {1 + random.nextInt(7), 1 + random.nextInt(7), 1 + random.nextInt(7)};
            int[] b = {1 + random.nextInt(7), 1 + random.nextInt(7), 1 + random.nextInt(7)};
            if (n % 3 == 0) {
                b[random.nextInt(3)] = a[0];
                b[1] = a[1];
            }
            AnswerKeeper x = new AnswerKeeper();
            x.answer(1, 7, a[0], a[1], a[2]);
            x.answer(2, 7, b[0], b[1], b[2]);
            boolean may = casesOf(a[0] | b[0], a[1] | b[1], a[2] | b[2]) == casesOfBoth(a, b);
            due.is("pair " + n, x.melt(0, 1), may ? 1 : NOT);
            due.is("pair " + n + ": cases of 0 then", casesHeld(x, 0), may ? casesOfBoth(a, b) : casesOf(a[0], a[1], a[2]));
            melted += may ? 1 : 0;
        }
        due.is("both come often", melted > PAIRS / 10 && melted < PAIRS * 9 / 10 ? 1 : 0, 1);
    }

    private static int casesOf(int products, int editions, int roles) {
        return Integer.bitCount(products) * Integer.bitCount(editions) * Integer.bitCount(roles);
    }

    private static int casesOfBoth(int[] a, int[] b) {
        int count = 0;
        for (int p = 0; p < 8; p++) {
            for (int e = 0; e < 10; e++) {
                for (int r = 0; r < 4; r++) {
                    int inA = a[0] >> p & a[1] >> e & a[2] >> r & 1;
                    int inB = b[0] >> p & b[1] >> e & b[2] >> r & 1;
                    count += inA | inB;
                }
            }
        }
        return count;
    }

    private static int casesHeld(AnswerKeeper x, int a) {
        int count = 0;
        for (int p = 0; p < 8; p++) {
            for (int e = 0; e < 10; e++) {
                for (int r = 0; r < 4; r++) {
                    count += x.holds(a, p, e, r);
                }
            }
        }
        return count;
    }

    private void heaped() {
        doc.says("What it is", "what was asked in vain is heaped,");
        Random random = new Random(4);
        for (int n = 0; n < 20; n++) {
            AnswerKeeper x = drawn(random);
            for (int k = 0; k < 30; k++) {
                x.ask(random.nextInt(256) | 1L << random.nextInt(40), random.nextInt(9) - 1, NONE, NONE);
            }
            int inVain = 0;
            int greatest = NONE;
            for (int k = 0; k < 30; k++) {
                int heap = x.asked(k, 1);
                due.is("one in vain has a heap, another one none", heap == NONE ? 0 : 1, x.asked(k, 0));
                due.is("a new heap has the next number", heap <= greatest + 1 ? 1 : 0, 1);
                inVain += x.asked(k, 0);
                greatest = Math.max(greatest, heap);
            }
            due.is("as many in vain", x.count(7), inVain);
            due.is("as many heaps", x.count(8), greatest + 1);
        }
    }

    /** What THE HELP tells is tried: the same ask with the word finds one, with a lesser word it does not. */
    private void wordThatHelps() {
        doc.says("What it is", "with the word that would have helped.");
        Random random = new Random(5);
        int helped = 0;
        int notHelped = 0;
        for (int n = 0; n < 200; n++) {
            AnswerKeeper x = drawn(random);
            x.fold(random.nextInt(8), random.nextInt(8));
            x.fold(20, random.nextInt(8));
            x.rule(1, random.nextInt(25));
            long words = random.nextInt(256);
            int product = random.nextInt(9) - 1;
            int ask = x.ask(words, product, NONE, NONE);
            int help = x.asked(ask, 2);
            if (x.asked(ask, 0) == 1) {
                for (int w = 0; w <= (help == NONE ? 28 : help); w++) {
                    int more = x.ask(words | 1L << w, product, NONE, NONE);
                    due.is("in vain with word " + w + ", the help is " + help, x.asked(more, 0), w == help ? 0 : 1);
                }
                helped += help != NONE ? 1 : 0;
                notHelped += help == NONE ? 1 : 0;
            }
        }
        due.is("both come often: " + helped + ", " + notHelped, helped > 20 && notHelped > 20 ? 1 : 0, 1);
    }

    /** What such calls answer is free, but they answer: LANGUAGE.md, rule 7. */
    private void afterTheLast() {
        doc.says("What it is", "what later calls answer is free.");
        AnswerKeeper x = drawn(new Random(6));
        askOpen(x, 7L << 30);
        for (int n = 0; n < 3000; n++) {
            x.changed(n % 12);
            x.vote(n % 14, n % 3 == 0);
            x.confirm(n % 12);
            x.fold(n % 41, n % 7);
            x.cost(0, n % 13);
        }
        due.is("it answers still", x.count(0), 12);
        due.is("it answers still", x.asked(0, 2) >= NONE ? 1 : 0, 1);
    }

    private void notPromised() {
        doc.tellsOfItself("Not promised", "How the state is held inside the object is free, as are the speed of each "
                + "call, the text of toString and the behaviour of equals and hashCode. Use of one object from several "
                + "threads at once is not promised to be safe. Nothing is promised beyond the answers and state changes "
                + "described above, and nothing about an object after its 512th call.");
    }
}
