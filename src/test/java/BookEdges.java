/** Sentences on numbers, the book, things and rules: a new object and the calls fold, changed, rule. */
final class BookEdges extends Edges {
    BookEdges(Due due, Quotes doc) {
        super(due, doc);
    }

    @Override
    void run() {
        calls();
        none();
        numbers();
        sets();
        words();
        bookAtFirst();
        folded();
        things();
        newObject();
        fold();
        foldOutside();
        changed();
        changedUnknown();
        rule();
        ruleOutside();
    }

    private void calls() {
        doc.says("What it is", "An object is used for at most 512 calls after it has been made;");
        AnswerKeeper x = new AnswerKeeper();
        for (int n = 1; n <= 512; n++) {
            due.is("a change at call " + n, x.changed(9), n);
        }
        AnswerKeeper y = withAnswers(1);
        for (int n = 1; n <= 511; n++) {
            due.is("a vote down at call " + (n + 1), y.vote(0, false), -n);
        }
        AnswerKeeper z = full();
        for (int n = 1; n <= 512 - 54 - 1; n++) {
            due.is("a change at call " + (54 + n), z.changed(n % 10), (n + 9) / 10);
        }
        due.is("the 512th call", z.count(7), 30);
    }

    /** As many answers and asks as there can be; 54 calls. */
    private static AnswerKeeper full() {
        AnswerKeeper x = new AnswerKeeper();
        for (int a = 0; a < 24; a++) {
            everywhere(x, 0, a);
        }
        for (int k = 0; k < 30; k++) {
            askOpen(x, 7L << k);
        }
        return x;
    }

    private void none() {
        doc.says("Terms", "NONE is -1.");
        due.is("the constant", AnswerKeeper.NONE, -1);
        AnswerKeeper x = withAnswers(1);
        due.is("no part", x.told(0, 10), -1);
        due.is("no pair", x.quarrel(0, 0), -1);
        due.is("taken for none", x.ask(1, -1, -1, -1), 0);
        due.is("no question", x.found(0, 0, 2), -1);
    }

    private void numbers() {
        doc.says("Terms", "All numbers are whole; what has a number has it from 0 on, as it comes.");
        AnswerKeeper x = new AnswerKeeper();
        due.is("the first answer", everywhere(x, 1, 1), 0);
        due.is("the second", everywhere(x, 2, 1), 1);
        due.is("a refused one takes no number", x.answer(1, 1, 0, 1, 1), OUTSIDE);
        due.is("a joined one takes the next", x.join(0, 1, NONE, NONE), 2);
        due.is("a refused one takes no number", x.join(0, 0, NONE, NONE), NOT);
        due.is("after a joined one", everywhere(x, 4, 1), 3);
        x.move(3, 0);
        due.is("a moved one keeps its number", everywhere(x, 8, 1), 4);
        due.is("the first ask", askOpen(x, 1), 0);
        due.is("a refused one takes no number", x.ask(-1, 0, 0, 0), OUTSIDE);
        due.is("the second ask", askOpen(x, 7L << 20), 1);
        due.is("the third ask", askOpen(x, 7L << 30), 2);
        due.is("answers and asks are numbered apart", everywhere(x, 16, 1), 5);
        due.is("the first heap", x.asked(1, 1), 0);
        due.is("the second heap", x.asked(2, 1), 1);
    }

    private void sets() {
        doc.says("Terms", "A SET is a whole number, bit k for k.");
        for (int k = 0; k < 40; k++) {
            AnswerKeeper x = new AnswerKeeper();
            x.answer(1L << k, 1, 1 << k % 8, 1 << k % 10, 1 << k % 4);
            x.bind(0, 1 << k % 10);
            due.is("words of bit " + k, x.words(0), 1L << k);
            due.is("holds in its bits", x.holds(0, k % 8, k % 10, k % 4), 1);
            due.is("no other product", x.holds(0, (k + 1) % 8, k % 10, k % 4), 0);
            due.is("no other edition", x.holds(0, k % 8, (k + 1) % 10, k % 4), 0);
            due.is("no other role", x.holds(0, k % 8, k % 10, (k + 1) % 4), 0);
            for (int thing = 0; thing < 10; thing++) {
                x.confirm(0);
                x.changed(thing);
                due.is("thing " + thing + " is in bit " + k % 10, x.told(0, 7), thing == k % 10 ? 1 : 0);
            }
            x.confirm(0);
            for (int w = 0; w < 40; w++) {
                x.fold(w, 0);
            }
            x.fold(k, 1);
            askOpen(x, 2);
            x.fold(1, 1);
            due.is("bit " + k + " is word " + k, x.cost(0, 0), 5);
        }
    }

    private void words() {
        doc.says("Terms", "WORDS 0 .. 39.");
        AnswerKeeper x = new AnswerKeeper();
        due.is("word 0", x.fold(0, 0), 0);
        due.is("word 39", x.fold(39, 39), 39);
        due.is("word -1", x.fold(-1, 0), OUTSIDE);
        due.is("word 40", x.fold(40, 0), OUTSIDE);
        due.is("an answer with word 0 alone", everywhere(x, 1, 1), 0);
        due.is("an answer with word 39 alone", everywhere(x, 1L << 39, 1), 1);
        due.is("an answer with word 40", everywhere(x, 1L << 40, 1), OUTSIDE);
        due.is("an ask with word 39 alone", askOpen(x, 1L << 39), 0);
        due.is("an ask with word 40", askOpen(x, 1L << 40), OUTSIDE);
        due.is("word 39 is word 39", x.cost(0, 1), 0);
        due.is("word 39 is not word 0", x.cost(0, 0), 13);
    }

    private void bookAtFirst() {
        doc.says("Terms", "THE BOOK folds each WORD to one (itself at first);");
        AnswerKeeper x = new AnswerKeeper();
        for (int w = 0; w < 40; w++) {
            due.is("at first word " + w, x.fold(w, (w + 1) % 40), w);
        }
        for (int w = 0; w < 40; w++) {
            due.is("to one alone, word " + w, x.fold(w, w), (w + 1) % 40);
        }
        for (int first = 0; first <= 10; first += 10) {
            AnswerKeeper y = new AnswerKeeper();
            for (int w = first; w < first + 30; w++) {
                askOpen(y, 1L << w);
            }
            y.rule(0, 0);
            due.is("no two of thirty words are one", y.count(8), 30);
        }
    }

    private void folded() {
        doc.says("Terms", "a SET of WORDS is FOLDED by folding each of them once.");
        AnswerKeeper x = new AnswerKeeper();
        everywhere(x, 2, 1);
        everywhere(x, 4, 1);
        askOpen(x, 1);
        x.fold(0, 1);
        x.fold(1, 2);
        due.is("0 to 1, not by 1 on to 2", x.cost(0, 1), 13);
        due.is("1 is at 2 by now", x.cost(0, 0), 13);
        x.fold(1, 0);
        due.is("0 to 1 and 1 to 0: no ring", x.cost(0, 0), 13);
        x.fold(1, 1);
        due.is("0 to 1", x.cost(0, 0), 0);
        AnswerKeeper y = new AnswerKeeper();
        everywhere(y, ALL_WORDS, 1);
        askOpen(y, 1L << 39);
        for (int w = 0; w < 40; w++) {
            due.is("each of them: " + w + " are one", y.cost(0, 0), 3 * (39 - w));
            y.fold(w, 39);
        }
        due.is("all are one", y.cost(0, 0), 0);
        for (int w = 0; w < 40; w++) {
            y.fold(w, 0);
        }
        due.is("all are one, the least", y.cost(0, 0), 0);
        askOpen(y, 0);
        due.is("no word is folded to none", y.cost(1, 0), 3);
    }

    private void things() {
        doc.says("Terms", "THINGS 0 .. 9 have a STATE (a number, 0 at first) that goes up by one as they change.");
        AnswerKeeper x = new AnswerKeeper();
        due.is("thing -1", x.changed(-1), UNKNOWN);
        due.is("thing 10", x.changed(10), UNKNOWN);
        for (int thing = 0; thing < 10; thing++) {
            due.is("0 at first, of thing " + thing, x.changed(thing), 1);
        }
        for (int thing = 0; thing < 10; thing++) {
            for (int n = 2; n <= 2 + thing; n++) {
                due.is("by one, thing " + thing, x.changed(thing), n);
            }
        }
        for (int thing = 0; thing < 10; thing++) {
            due.is("each its own, thing " + thing, x.changed(thing), thing + 3);
        }
    }

    private void newObject() {
        doc.says("Promise 1", "No ANSWERS, no ASKS; THE BOOK, THINGS, numbers as told.");
        AnswerKeeper x = new AnswerKeeper();
        for (int what = 0; what <= 8; what++) {
            due.is("none at first: " + what, x.count(what), 0);
        }
        due.is("no answer", x.told(0, 0), UNKNOWN);
        due.is("no answer's words", x.words(0), UNKNOWN);
        due.is("no answer's case", x.holds(0, 0, 0, 0), UNKNOWN);
        due.is("no ask", x.asked(0, 0), UNKNOWN);
        due.is("no ask's findings", x.found(0, 0, 0), UNKNOWN);
        due.is("no pair", x.quarrel(0, 0), NONE);
        due.is("NEAR", x.rule(0, 1), 2);
        due.is("LIMIT", x.rule(1, 1), 20);
        AnswerKeeper y = new AnswerKeeper();
        due.is("of another object: NEAR", y.rule(0, 2), 2);
        due.is("of another object: LIMIT", y.rule(1, 20), 20);
        x.fold(3, 4);
        x.changed(3);
        everywhere(x, 1, 1);
        askOpen(x, 1);
        due.is("of another object: the book", y.fold(3, 3), 3);
        due.is("of another object: things", y.changed(3), 1);
        due.is("of another object: answers", y.count(0), 0);
        due.is("of another object: asks", y.count(6), 0);
    }

    private void fold() {
        doc.says("Promise 2", "WORD w is folded to another one from now on: to which it was.");
        AnswerKeeper x = new AnswerKeeper();
        due.is("was itself", x.fold(0, 39), 0);
        due.is("was the greatest", x.fold(0, 5), 39);
        due.is("to that to which it is", x.fold(0, 5), 5);
        due.is("to itself again", x.fold(0, 0), 5);
        due.is("the other one is not folded with it", x.fold(5, 5), 5);
        everywhere(x, 1, 1);
        everywhere(x, 2, 2);
        askOpen(x, 1);
        askOpen(x, 7L << 20);
        askOpen(x, 63L << 20);
        x.rule(0, 0);
        x.rule(1, 0);
        due.is("not as yet", x.count(5), 0);
        due.is("not as yet", x.cost(0, 1), 13);
        due.is("not as yet", x.count(8), 2);
        x.fold(1, 0);
        due.is("answers that came before", x.count(5), 1);
        due.is("asks that came before", x.cost(0, 1), 0);
        x.fold(0, 1);
        due.is("to the word that was folded here: no chain", x.count(5), 0);
        for (int w = 20; w < 26; w++) {
            x.fold(w, 39);
        }
        due.is("heaps of asks that came before", x.count(8), 1);
    }

    private void foldOutside() {
        doc.says("Promise 2", "OUTSIDE (both).");
        AnswerKeeper x = new AnswerKeeper();
        int[] wrong = {-1, 40, 64, 72, -40, 256, LEAST, LEAST + 1, MOST};
        for (int w : wrong) {
            due.is("w " + w, x.fold(w, 0), OUTSIDE);
            due.is("to " + w, x.fold(8, w), OUTSIDE);
            due.is("both " + w, x.fold(w, w), OUTSIDE);
        }
        int[] right = {0, 39};
        for (int w : right) {
            due.is("w " + w, x.fold(w, w), w);
            due.is("to " + w, x.fold(20 + w % 2, w), 20 + w % 2);
        }
        due.is("the refused ones folded nothing", x.fold(8, 8), 8);
    }

    private void changed() {
        doc.says("Promise 3", "A THING changes: its STATE then.");
        AnswerKeeper x = withAnswers(1);
        due.is("the first time", x.changed(0), 1);
        due.is("the second time", x.changed(0), 2);
        due.is("the greatest thing", x.changed(9), 1);
        due.is("not bound to them", x.told(0, 7), 0);
        x.confirm(0);
        x.bind(0, 1);
        due.is("ahead of the change", x.told(0, 7), 0);
        due.is("a change", x.changed(0), 3);
        due.is("it has changed", x.told(0, 7), 1);
    }

    private void changedUnknown() {
        doc.says("Promise 3", "UNKNOWN.");
        AnswerKeeper x = withAnswers(1);
        x.bind(0, 1023);
        int[] wrong = {-1, 10, 16, 32, 42, -32, 256, LEAST, MOST};
        for (int thing : wrong) {
            due.is("thing " + thing, x.changed(thing), UNKNOWN);
        }
        due.is("the refused ones changed nothing", x.told(0, 7), 0);
        due.is("the least thing", x.changed(0), 1);
        due.is("the greatest thing", x.changed(9), 1);
    }

    private void rule() {
        doc.says("Promise 4", "What = 0 NEAR, 1 LIMIT becomes v: what it was.");
        AnswerKeeper x = new AnswerKeeper();
        due.is("NEAR 2 at first", x.rule(0, 10), 2);
        due.is("LIMIT 20 at first", x.rule(1, 200), 20);
        due.is("NEAR was the greatest", x.rule(0, 0), 10);
        due.is("LIMIT was the greatest", x.rule(1, 0), 200);
        due.is("NEAR was the least", x.rule(0, 3), 0);
        due.is("LIMIT was the least", x.rule(1, 11), 0);
        due.is("NEAR becomes what it is", x.rule(0, 3), 3);
        due.is("LIMIT becomes what it is", x.rule(1, 11), 11);
        everywhere(x, 0, 1);
        everywhere(x, 15, 2);
        askOpen(x, 31L << 10);
        due.is("NEAR, with answers that came before", x.count(5), 0);
        x.rule(0, 4);
        due.is("NEAR, with answers that came before", x.count(5), 1);
        due.is("LIMIT, with asks that came before", x.asked(0, 0), 1);
        x.rule(1, 50);
        due.is("LIMIT, with asks that came before", x.asked(0, 0), 0);
    }

    private void ruleOutside() {
        doc.says("Promise 4", "OUTSIDE.");
        AnswerKeeper x = new AnswerKeeper();
        int[] wrongWhat = {-1, 2, 3, 32, -2, 256, LEAST, MOST};
        for (int what : wrongWhat) {
            due.is("what " + what, x.rule(what, 5), OUTSIDE);
        }
        int[] wrongNear = {-1, 11, 200, LEAST, MOST};
        for (int v : wrongNear) {
            due.is("NEAR " + v, x.rule(0, v), OUTSIDE);
        }
        int[] wrongLimit = {-1, 201, LEAST, MOST};
        for (int v : wrongLimit) {
            due.is("LIMIT " + v, x.rule(1, v), OUTSIDE);
        }
        due.is("NEAR as it was", x.rule(0, 0), 2);
        due.is("LIMIT as it was", x.rule(1, 0), 20);
        due.is("NEAR 10", x.rule(0, 10), 0);
        due.is("LIMIT 200", x.rule(1, 200), 0);
        due.is("NEAR 10 was taken", x.rule(0, 2), 10);
        due.is("LIMIT 200 was taken", x.rule(1, 20), 200);
    }
}
