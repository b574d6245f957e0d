/** Sentences on answers that are joined of parts or moved on to others, and on what is told of them. */
final class JoinEdges extends Edges {
    JoinEdges(Due due, Quotes doc) {
        super(due, doc);
    }

    @Override
    void run() {
        joined();
        joinedHas();
        moved();
        end();
        partsAsEnds();
        partsDeep();
        doubtedWithParts();
        doubtedWithEnds();
        join();
        joinRefused();
        move();
        moveRefused();
        moveDeep();
        told();
        toldJoined();
        toldMoved();
        toldRefused();
    }

    private void joined() {
        doc.says("Terms", "1 JOINED of two to four PARTS, PLAIN ones (as it comes):");
        AnswerKeeper x = withAnswers(5);
        due.is("one part", x.join(0, NONE, NONE, NONE), UNKNOWN);
        due.is("two parts", x.join(0, 1, NONE, NONE), 5);
        due.is("three parts", x.join(0, 1, 2, NONE), 6);
        due.is("four parts", x.join(0, 1, 2, 3), 7);
        for (int a = 5; a <= 7; a++) {
            due.is("kind of " + a, x.told(a, 0), 1);
            due.is("parts of " + a, x.told(a, 9), a - 3);
        }
        due.is("a joined part", x.join(5, 1, NONE, NONE), NOT);
        x.move(4, 6);
        due.is("a moved part, its end joined", x.join(4, 1, NONE, NONE), NOT);
        x.move(3, 6);
        due.is("as it came; a part may be moved to a joined one later", x.told(7, 13), 6);
        due.is("still four", x.told(7, 9), 4);
    }

    private void joinedHas() {
        doc.says("Terms", "its WORDS are all of theirs, its SETS what is in those of all PARTS (they may be empty).");
        AnswerKeeper x = new AnswerKeeper();
        x.answer(1, 1, 0b11110000, 0b1111000000, 0b1100);
        x.answer(2, 2, 0b10111111, 0b1011111111, 0b1011);
        x.answer(4 | 1, 3, 0b11011100, 0b1101110000, 0b1110);
        x.answer(1L << 39, 4, 0b10000001, 0b1000000001, 0b1001);
        x.answer(0, 5, 1, 1, 1);
        joinedHas(x, x.join(0, 1, NONE, NONE), 3, 0b10110000, 0b1011000000, 0b1000);
        joinedHas(x, x.join(0, 1, 2, NONE), 7, 0b10010000, 0b1001000000, 0b1000);
        joinedHas(x, x.join(0, 1, 2, 3), 7 | 1L << 39, 0b10000000, 0b1000000000, 0b1000);
        joinedHas(x, x.join(0, 4, NONE, NONE), 1, 0, 0, 0);
        joinedHas(x, x.join(1, 3, 4, NONE), 2 | 1L << 39, 1, 1, 1);
        joinedHas(x, x.join(1, 3, 4, 2), 7 | 1L << 39, 0, 0, 0);
        x.answer(8, 6, 0b00001111, EDITIONS, ROLES);
        joinedHas(x, x.join(0, 11, NONE, NONE), 9, 0, 0b1111000000, 0b1100);
        due.is("where no product is", x.holds(12, 4, 6, 2), 0);
    }

    private void joinedHas(AnswerKeeper x, int a, long words, int products, int editions, int roles) {
        due.is("words of " + a, x.words(a), words);
        due.is("products of " + a, x.told(a, 3), products);
        due.is("editions of " + a, x.told(a, 4), editions);
        due.is("roles of " + a, x.told(a, 5), roles);
    }

    private void moved() {
        doc.says("Terms", "2 MOVED: it leads on to another ANSWER; what it was stays with it, but is not used.");
        AnswerKeeper x = new AnswerKeeper();
        x.answer(3, 5, 7, 1023, 15);
        x.answer(1L << 30, 5, 7, 1023, 15);
        everywhere(x, 3, 6);
        x.bind(0, 1);
        x.vote(0, true);
        x.changed(0);
        askOpen(x, 3);
        x.rule(1, 200);
        due.is("used before: pairs", x.count(5), 1);
        due.is("used before: doubts", x.count(4), 1);
        due.is("used before: found", x.asked(0, 3), 3);
        x.move(0, 1);
        due.is("it is moved", x.told(0, 0), 2);
        due.is("on to another", x.told(0, 1), 1);
        due.is("its words stay", x.words(0), 3);
        due.is("its steps stay", x.told(0, 2), 5);
        due.is("its set stays", x.told(0, 3), 7);
        due.is("its things stay", x.told(0, 6), 1);
        due.is("its votes stay", x.told(0, 8), 1);
        due.is("not used: pairs", x.count(5), 0);
        due.is("not used: doubts", x.count(4), 0);
        due.is("not used: cases", x.holds(0, 0, 0, 0), 0);
        due.is("not used: costs", x.cost(0, 0), NOT);
        due.is("not used: found", x.asked(0, 3), 2);
        due.is("the other one has its own words alone", x.words(1), 1L << 30);
        due.is("the other one has its own things alone", x.told(1, 6), 0);
        due.is("the other one has its own votes alone", x.told(1, 8), 0);
        due.is("the other one is not doubted", x.told(1, 7), 0);
    }

    private void end() {
        doc.says("Terms", "The END of an ANSWER: itself, or, if it is MOVED, the END of the one to which it leads on.");
        AnswerKeeper up = withAnswers(24);
        for (int a = 0; a < 23; a++) {
            due.is("up from " + a, up.move(a, a + 1), a + 1);
        }
        AnswerKeeper down = withAnswers(24);
        for (int a = 23; a > 0; a--) {
            due.is("down from " + a, down.move(a, a - 1), a - 1);
        }
        AnswerKeeper late = withAnswers(24);
        for (int a = 22; a >= 0; a--) {
            due.is("the later first, " + a, late.move(a, a + 1), 23);
        }
        AnswerKeeper none = withAnswers(24);
        for (int a = 0; a < 24; a++) {
            due.is("up: the end of " + a, up.told(a, 1), 23);
            due.is("down: the end of " + a, down.told(a, 1), 0);
            due.is("the later first: the end of " + a, late.told(a, 1), 23);
            due.is("itself", none.told(a, 1), a);
        }
    }

    private void partsAsEnds() {
        doc.says("Terms", "(PARTS that are MOVED by now are taken as their ENDS, whatever these are.)");
        AnswerKeeper x = new AnswerKeeper();
        x.answer(1, 1, 1, 1, 1);
        x.answer(2, 2, 3, 3, 3);
        x.answer(4, 3, 6, 6, 6);
        x.answer(8, 4, 2, 2, 2);
        x.join(0, 1, NONE, NONE);
        x.join(2, 3, NONE, NONE);
        x.move(0, 2);
        joinedHas(x, 4, 2 | 4, 2, 2, 2);
        due.is("a plain end", x.told(4, 10), 2);
        x.move(1, 5);
        joinedHas(x, 4, 4 | 8, 2, 2, 2);
        due.is("a joined end", x.told(4, 11), 5);
        x.bind(3, 16);
        due.is("things of a joined end", x.told(4, 6), 16);
        x.move(5, 2);
        joinedHas(x, 4, 4, 6, 6, 6);
        due.is("both ends are one", x.told(4, 10), 2);
        due.is("both ends are one", x.told(4, 11), 2);
        due.is("there are two parts all the same", x.told(4, 9), 2);
        due.is("things of the end alone", x.told(4, 6), 0);
    }

    /** Eleven joined ones, each a part of the next, by part 0 that is theirs all: from one plain pair up, and down. */
    private void partsDeep() {
        doc.says("Terms", "(PARTS that are MOVED by now are taken as their ENDS, whatever these are.)");
        deep(true);
        deep(false);
    }

    private void deep(boolean up) {
        AnswerKeeper x = nested(up);
        int top = up ? 22 : 12;
        int bottom = up ? 12 : 22;
        int leaf = up ? 1 : 11;
        due.is("words from the deepest", x.words(top), 1L | 1L << leaf);
        for (int what = 10; what <= 11; what++) {
            due.is("its parts", x.told(top, what), what == 10 ? up ? 21 : 13 : 0);
        }
        x.bind(leaf, 512);
        due.is("things from the deepest", x.told(top, 6), 512);
        x.changed(9);
        due.is("doubts from the deepest", x.told(top, 7), 1);
        due.is("all eleven, and the plain one", x.count(4), 12);
        due.is("the deepest plain one into the top", x.move(leaf, top), NOT);
        due.is("the deepest joined one into the top", x.move(bottom, top), NOT);
        due.is("the part of all into the top", x.move(0, top), NOT);
        due.is("the top into the deepest plain one", x.move(top, leaf), leaf);
        due.is("what it was stays", x.words(top), 1L | 1L << leaf);
        x.confirm(leaf);
        due.is("none is doubted", x.count(4), 0);
    }

    /** Answers 1 to 11 are the parts of 12 to 22 beside 0; all but the deepest are moved to the joined one below. */
    private static AnswerKeeper nested(boolean up) {
        AnswerKeeper x = withAnswers(12);
        for (int k = 1; k <= 11; k++) {
            x.join(k, 0, NONE, NONE);
        }
        for (int k = 1; k <= 10; k++) {
            if (up) {
                x.move(k + 1, 11 + k);
            } else {
                x.move(k, 12 + k);
            }
        }
        return x;
    }

    private void doubtedWithParts() {
        doc.says("Terms", "A JOINED one is DOUBTED, if one of its PARTS is.");
        for (int part = 0; part < 4; part++) {
            AnswerKeeper x = withAnswers(5);
            x.join(0, 1, 2, 3);
            x.bind(part, 1 << part);
            x.bind(4, 16);
            x.changed(4);
            due.is("none of its parts", x.told(5, 7), 0);
            x.changed(part);
            due.is("its part " + part, x.told(5, 7), 1);
            for (int other = 0; other < 4; other++) {
                if (other != part) {
                    x.bind(other, 1 << part);
                    due.is("another part, too", x.confirm(other), 1);
                    due.is("its part " + part + " still", x.told(5, 7), 1);
                }
            }
            x.confirm(part);
            due.is("none of its parts any more", x.told(5, 7), 0);
            x.bind(part, 1023);
            due.is("its part " + part + ", bound to all things", x.told(5, 7), 0);
            x.changed(9);
            due.is("its part " + part + ", bound to all things", x.told(5, 7), 1);
        }
    }

    private void doubtedWithEnds() {
        doc.says("Terms", "A JOINED one is DOUBTED, if one of its PARTS is.");
        AnswerKeeper x = withAnswers(5);
        x.join(0, 1, NONE, NONE);
        x.join(2, 3, NONE, NONE);
        x.bind(0, 1);
        x.bind(4, 1);
        x.bind(3, 2);
        x.changed(0);
        x.confirm(4);
        due.is("its part", x.told(5, 7), 1);
        x.move(0, 4);
        due.is("the part is moved to a sure one", x.told(5, 7), 0);
        x.changed(0);
        due.is("the end is doubted", x.told(5, 7), 1);
        x.confirm(4);
        x.move(4, 6);
        due.is("the end is joined", x.told(5, 7), 0);
        x.changed(1);
        due.is("the end is joined, and doubted", x.told(5, 7), 1);
        x.move(6, 2);
        due.is("the end is sure again", x.told(5, 7), 0);
        due.is("a moved one is not doubted", x.told(6, 7), 0);
    }

    private void join() {
        doc.says("Promise 6", "A JOINED ANSWER of PARTS a, b, c, d (c, or c and d, may be NONE): its number.");
        AnswerKeeper x = withAnswers(20);
        x.bind(7, 1);
        x.changed(0);
        int[][] parts = {{0, 1, NONE, NONE}, {1, 0, NONE, NONE}, {19, 7, 3, NONE}, {3, 2, 1, 0}};
        for (int j = 0; j < 4; j++) {
            int[] p = parts[j];
            due.is("its number", x.join(p[0], p[1], p[2], p[3]), 20 + j);
            for (int i = 0; i < 4; i++) {
                due.is("part " + i + " of " + (20 + j), x.told(20 + j, 10 + i), p[i]);
            }
            due.is("no votes", x.told(20 + j, 8), 0);
            due.is("its end", x.told(20 + j, 1), 20 + j);
        }
        due.is("doubted as it comes", x.told(22, 7), 1);
        due.is("its parts are plain still", x.count(1), 20);
    }

    private void joinRefused() {
        doc.says("Promise 6", "UNKNOWN; NOT: one is not PLAIN, or two are one, or c is NONE and d is not; FULL.");
        AnswerKeeper x = withAnswers(5);
        x.join(0, 1, NONE, NONE);
        x.move(4, 3);
        int[] none = {-2, 6, 23, 24, 31, 32, 33, LEAST, MOST};
        for (int a : none) {
            due.is("no a " + a, x.join(a, 1, 2, 3), UNKNOWN);
            due.is("no b " + a, x.join(0, a, 2, 3), UNKNOWN);
            due.is("no c " + a, x.join(0, 1, a, 3), UNKNOWN);
            due.is("no d " + a, x.join(0, 1, 2, a), UNKNOWN);
            due.is("no c, and no d is given", x.join(0, 1, a, NONE), UNKNOWN);
            due.is("UNKNOWN ahead of NOT: no c is given", x.join(0, 1, NONE, a), UNKNOWN);
            due.is("UNKNOWN ahead of NOT: one is joined", x.join(5, a, NONE, NONE), UNKNOWN);
            due.is("UNKNOWN ahead of NOT: one is moved", x.join(4, 0, a, NONE), UNKNOWN);
            due.is("UNKNOWN ahead of NOT: two are one", x.join(0, 0, 1, a), UNKNOWN);
            due.is("UNKNOWN ahead of NOT: the same unknown", x.join(a, a, a, a), UNKNOWN);
        }
        due.is("a may not be NONE", x.join(NONE, 1, NONE, NONE), UNKNOWN);
        due.is("b may not be NONE", x.join(0, NONE, NONE, NONE), UNKNOWN);
        due.is("b may not be NONE", x.join(0, NONE, 1, NONE), UNKNOWN);
        int[][] not = {{5, 0, 1, 2}, {0, 5, 1, 2}, {0, 1, 5, 2}, {0, 1, 2, 5}, {4, 0, 1, 2}, {0, 4, 1, 2}, {0, 1, 4, 2},
            {0, 1, 2, 4}, {0, 0, NONE, NONE}, {0, 0, 1, NONE}, {0, 1, 0, NONE}, {0, 1, 1, NONE}, {0, 0, 1, 2},
            {0, 1, 0, 2}, {0, 1, 2, 0}, {0, 1, 1, 2}, {0, 1, 2, 1}, {0, 1, 2, 2}, {0, 0, 0, 0}, {0, 1, NONE, 2},
            {0, 1, NONE, 0}, {0, 0, NONE, 1}, {0, 0, NONE, 0}, {0, 5, NONE, NONE}, {4, 0, NONE, NONE}};
        for (int n = 0; n < 2; n++) {
            String when = n == 0 ? "" : ", NOT ahead of FULL";
            for (int[] p : not) {
                due.is("join " + java.util.Arrays.toString(p) + when, x.join(p[0], p[1], p[2], p[3]), NOT);
            }
            for (int a = 6; a < 24 && n == 0; a++) {
                due.is("room for 24", x.join(0, 1, 2, 3), a);
            }
        }
        due.is("FULL", x.join(0, 1, NONE, NONE), FULL);
        due.is("FULL", x.join(0, 1, 2, 3), FULL);
        due.is("UNKNOWN ahead of FULL", x.join(0, 24, NONE, NONE), UNKNOWN);
        for (int moved = 0; moved < 4; moved++) {
            AnswerKeeper y = withAnswers(5);
            y.move(moved, 4);
            due.is("answer " + moved + " is moved, of four", y.join(0, 1, 2, 3), NOT);
            due.is("answer " + moved + " is moved, of two", y.join(4, moved, NONE, NONE), NOT);
            due.is("answer " + moved + " is moved, of two", y.join(moved, 4, NONE, NONE), NOT);
        }
    }

    private void move() {
        doc.says("Promise 9", "An ANSWER is MOVED to another one: the END.");
        AnswerKeeper x = withAnswers(24);
        due.is("the last to the first", x.move(23, 0), 0);
        due.is("to the end of a moved one", x.move(22, 23), 0);
        due.is("the first to another", x.move(0, 1), 1);
        due.is("by two moved ones", x.move(21, 22), 1);
        int[] all = {23, 22, 21, 0, 1};
        for (int a : all) {
            due.is("the end of " + a, x.told(a, 1), 1);
        }
        AnswerKeeper y = withAnswers(5);
        y.join(0, 1, NONE, NONE);
        y.join(2, 3, NONE, NONE);
        due.is("a plain one to a joined one", y.move(4, 5), 5);
        due.is("a joined one to a joined one", y.move(5, 6), 6);
        due.is("a joined one to a part of its own", y.move(6, 2), 2);
        due.is("a joined one's part to where it was moved", y.move(3, 6), 2);
        due.is("the end of all", y.told(4, 1), 2);
    }

    private void moveRefused() {
        doc.says("Promise 9", "UNKNOWN; NOT: it is MOVED, its END would be itself, or b's END is JOINED and has a for a "
                + "PART, at any depth.");
        AnswerKeeper x = withAnswers(8);
        x.join(0, 1, 2, 3);
        x.join(4, 5, NONE, NONE);
        x.move(6, 7);
        int[] none = {-1, 10, 23, 24, 32, LEAST, MOST};
        for (int a : none) {
            due.is("no a " + a, x.move(a, 0), UNKNOWN);
            due.is("no b " + a, x.move(0, a), UNKNOWN);
            due.is("the same unknown", x.move(a, a), UNKNOWN);
            due.is("UNKNOWN ahead of NOT: it is moved", x.move(6, a), UNKNOWN);
        }
        for (int b = 0; b < 10; b++) {
            due.is("it is moved", x.move(6, b), NOT);
            due.is("its end would be itself", x.move(b, b), NOT);
        }
        due.is("its end would be itself, by a moved one", x.move(7, 6), NOT);
        for (int part = 0; part < 4; part++) {
            due.is("into that of which it is part " + part, x.move(part, 8), NOT);
        }
        due.is("into that of which it is a part", x.move(5, 9), NOT);
        due.is("a part of the one to the other", x.move(4, 8), 8);
        due.is("a part at depth 2", x.move(3, 9), NOT);
        due.is("a joined part", x.move(8, 9), NOT);
        due.is("by b's end", x.move(2, 4), NOT);
        due.is("the joined one to the moved one that is a part of the other", x.move(9, 4), 8);
        due.is("9 is moved: its end is 8, of which 5 is no part", x.move(5, 9), 8);
        due.is("as they were", x.count(3), 4);
    }

    private void moveDeep() {
        doc.says("Promise 9", "or b's END is JOINED and has a for a PART, at any depth.");
        for (int n = 0; n < 2; n++) {
            AnswerKeeper x = nested(n == 0);
            for (int whole = 12; whole <= 22; whole++) {
                for (int part = 12; part <= 22; part++) {
                    boolean below = n == 0 ? part <= whole : part >= whole;
                    if (below) {
                        due.is(part + " into " + whole, x.move(part, whole), NOT);
                    }
                }
                due.is("the part of all into " + whole, x.move(0, whole), NOT);
            }
            int top = n == 0 ? 22 : 12;
            int next = n == 0 ? 21 : 13;
            due.is("the whole into what is below", x.move(top, next), next);
            due.is("it is no part of that", x.told(next, 0), 1);
        }
    }

    private void told() {
        doc.says("Promise 12", "Of an ANSWER: what = 0 KIND, 1 its END, 2 STEPS (of a JOINED one NONE), 3 to 5 the SET "
                + "of an ASPECT, 6 THINGS to which it is BOUND (of a JOINED one all of its PARTS'), 7 whether it is "
                + "DOUBTED (1, 0), 8 VOTES, 9 how many PARTS, 10 to 13 its PARTS' ENDS (NONE).");
        AnswerKeeper x = withAnswers(23);
        x.answer(5, 9999, 128, 512, 8);
        x.bind(23, 1023);
        x.vote(23, false);
        x.changed(9);
        tells(x, 23, 0, 23, 9999, 128, 512, 8, 1023, 1, -1, 0, NONE, NONE, NONE, NONE);
        x.confirm(23);
        x.vote(23, true);
        x.vote(23, true);
        tells(x, 23, 0, 23, 9999, 128, 512, 8, 1023, 0, 1, 0, NONE, NONE, NONE, NONE);
        tells(x, 0, 0, 0, 0, 255, 1023, 15, 0, 0, 0, 0, NONE, NONE, NONE, NONE);
    }

    private void tells(AnswerKeeper x, int a, int... wants) {
        due.is("as much as can be told", wants.length, 14);
        for (int what = 0; what <= 13; what++) {
            due.is("told(" + a + ", " + what + ")", x.told(a, what), wants[what]);
        }
    }

    private void toldJoined() {
        doc.says("Promise 12", "2 STEPS (of a JOINED one NONE), 3 to 5 the SET of an ASPECT, 6 THINGS to which it is "
                + "BOUND (of a JOINED one all of its PARTS')");
        AnswerKeeper x = withAnswers(4);
        x.answer(1, 0, 3, 5, 9);
        x.bind(0, 1);
        x.bind(1, 512);
        x.bind(3, 1);
        x.join(4, 3, 1, 0);
        tells(x, 5, 1, 5, NONE, 3, 5, 9, 513, 0, 0, 4, 4, 3, 1, 0);
        x.changed(9);
        x.vote(5, true);
        x.join(2, 4, NONE, NONE);
        tells(x, 5, 1, 5, NONE, 3, 5, 9, 513, 1, 1, 4, 4, 3, 1, 0);
        tells(x, 6, 1, 6, NONE, 3, 5, 9, 0, 0, 0, 2, 2, 4, NONE, NONE);
        x.join(0, 1, 2, NONE);
        tells(x, 7, 1, 7, NONE, 255, 1023, 15, 513, 1, 0, 3, 0, 1, 2, NONE);
    }

    private void toldMoved() {
        doc.says("Promise 12", "Of a MOVED one 0 is 2 and 7 is 0; all but 0, 1 and 7 is as if it were not MOVED.");
        AnswerKeeper x = withAnswers(3);
        x.answer(1, 77, 3, 5, 9);
        x.bind(3, 6);
        x.vote(3, false);
        x.join(3, 1, NONE, NONE);
        x.vote(4, true);
        x.vote(4, true);
        x.changed(1);
        tells(x, 3, 0, 3, 77, 3, 5, 9, 6, 1, -1, 0, NONE, NONE, NONE, NONE);
        tells(x, 4, 1, 4, NONE, 3, 5, 9, 6, 1, 2, 2, 3, 1, NONE, NONE);
        x.move(4, 2);
        tells(x, 4, 2, 2, NONE, 3, 5, 9, 6, 0, 2, 2, 3, 1, NONE, NONE);
        x.move(3, 0);
        tells(x, 3, 2, 0, 77, 3, 5, 9, 6, 0, -1, 0, NONE, NONE, NONE, NONE);
        tells(x, 4, 2, 2, NONE, 255, 1023, 15, 0, 0, 2, 2, 0, 1, NONE, NONE);
        x.bind(1, 8);
        tells(x, 4, 2, 2, NONE, 255, 1023, 15, 8, 0, 2, 2, 0, 1, NONE, NONE);
        x.changed(3);
        due.is("moved, with a part that is doubted", x.told(4, 7), 0);
    }

    private void toldRefused() {
        doc.says("Promise 12", "UNKNOWN, OUTSIDE.");
        AnswerKeeper x = withAnswers(4);
        x.join(0, 1, NONE, NONE);
        x.move(3, 0);
        int[] none = {-1, 5, 23, 24, 32, LEAST, MOST};
        for (int a : none) {
            due.is("no answer " + a, x.told(a, 0), UNKNOWN);
            due.is("UNKNOWN ahead of OUTSIDE", x.told(a, 14), UNKNOWN);
            due.is("UNKNOWN ahead of OUTSIDE", x.told(a, -1), UNKNOWN);
        }
        int[] wrong = {-1, 14, 15, 16, 32, 256, LEAST, MOST};
        for (int a = 0; a < 5; a++) {
            for (int what : wrong) {
                due.is("told(" + a + ", " + what + ")", x.told(a, what), OUTSIDE);
            }
            due.is("told(" + a + ", 0)", x.told(a, 0), a == 4 ? 1 : a == 3 ? 2 : 0);
            due.is("told(" + a + ", 13)", x.told(a, 13), NONE);
        }
    }
}
