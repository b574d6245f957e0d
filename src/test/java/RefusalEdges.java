import java.util.List;
import java.util.function.Supplier;
import java.util.function.ToLongFunction;

/** Which refusal comes first where two are due, and that what is refused leaves all as it was. */
final class RefusalEdges extends Edges {
    private static final int[] WILD = {-2, 31, 32, 40, 64, 256, 1024, 10000, LEAST, MOST};

    private String state = "";
    private Supplier<AnswerKeeper> maker = AnswerKeeper::new;
    private List<Long> before = List.of();
    private int answers;
    private int asks;

    RefusalEdges(Due due, Quotes doc) {
        super(due, doc);
    }

    @Override
    void run() {
        constants();
        in("empty", AnswerKeeper::new);
        in("some", RefusalEdges::some);
        in("full", RefusalEdges::full);
    }

    private void constants() {
        doc.tellsOfItself("Terms", "Words in capitals are told where they come first.");
        doc.says("Terms", "REFUSALS, of several the first in this order: UNKNOWN (an ANSWER, ASK, THING that there is "
                + "not), OUTSIDE (another number out of its bounds), NOT (not now, as told), FULL.");
        due.is("UNKNOWN", AnswerKeeper.UNKNOWN, -1001);
        due.is("OUTSIDE", AnswerKeeper.OUTSIDE, -1002);
        due.is("NOT", AnswerKeeper.NOT, -1003);
        due.is("FULL", AnswerKeeper.FULL, -1004);
    }

    /**
     * 0 and 1 quarrel, 2 is far from them, 3 and 4 are joined of them; 5 (plain) and 6 (joined) are moved; 7 has
     * other products than 0, 8 empty sets. Ask 0 finds some, 1 and 2 are in vain, 3 is told a product that few have.
     */
    private static AnswerKeeper some() {
        AnswerKeeper x = new AnswerKeeper();
        x.fold(5, 6);
        x.fold(6, 39);
        x.changed(0);
        x.answer(0b111, 5, 3, 3, 15);
        x.answer(0b110, 6, 7, 1023, 15);
        x.answer(7L << 30, 7, 255, 1022, 15);
        x.join(0, 1, NONE, NONE);
        x.join(1, 2, 0, NONE);
        everywhere(x, 1L << 20, 5);
        x.join(5, 2, NONE, NONE);
        x.answer(0b111, 5, 4, 12, 15);
        x.join(0, 7, NONE, NONE);
        x.bind(0, 0b11);
        x.bind(2, 0b100);
        x.bind(5, 0b1000);
        x.changed(1);
        x.confirm(1);
        x.changed(9);
        x.vote(0, true);
        x.vote(2, false);
        x.vote(3, true);
        x.vote(5, true);
        x.move(5, 2);
        x.move(6, 1);
        x.rule(0, 3);
        x.rule(1, 25);
        x.ask(0b111, NONE, NONE, NONE);
        x.ask(7L << 10, 0, NONE, NONE);
        x.ask(15L << 10, 7, 0, NONE);
        x.ask(0b110, 2, 2, 2);
        return x;
    }

    private static AnswerKeeper full() {
        AnswerKeeper x = some();
        for (int a = 9; a < 24; a++) {
            x.answer(1L << a, a, 1 + a, 1 + a, 1 + a % 15);
        }
        for (int k = 4; k < 30; k++) {
            x.ask(1L << k, k % 9 - 1, NONE, NONE);
        }
        return x;
    }

    private void in(String name, Supplier<AnswerKeeper> made) {
        doc.says("Terms", "What is refused changes nothing.");
        state = name;
        maker = made;
        before = Whole.of(maker);
        answers = maker.get().count(0);
        asks = maker.get().count(6);
        due.is(name + ": told twice it is the same", Whole.of(maker).equals(before) ? 1 : 0, 1);
        unknownAnswers();
        unknownAsks();
        bookAndRules();
        newAnswers();
        newAsks();
        whats();
        if (answers > 0) {
            joins();
            bindsAndConfirms();
            moves();
            melts();
            holdsAndCosts();
        }
    }

    /** The answer that is due, twice on one object, and nothing else is told by it than without the call. */
    private void refused(String call, ToLongFunction<AnswerKeeper> made, long want) {
        AnswerKeeper x = maker.get();
        due.is(state + ": " + call, made.applyAsLong(x), want);
        due.is(state + ": once more " + call, made.applyAsLong(x), want);
        List<Long> after = Whole.of(() -> {
            AnswerKeeper y = maker.get();
            made.applyAsLong(y);
            return y;
        });
        due.is(state + ": " + call + " changes nothing", after.equals(before) ? 1 : 0, 1);
    }

    private void unknownAnswers() {
        int[] none = {-1, answers, answers + 1, 24, 32, LEAST, MOST};
        for (int a : none) {
            refused("bind(" + a + ", 1)", x -> x.bind(a, 1), UNKNOWN);
            refused("bind(" + a + ", 1024)", x -> x.bind(a, 1024), UNKNOWN);
            refused("confirm(" + a + ")", x -> x.confirm(a), UNKNOWN);
            refused("vote(" + a + ", true)", x -> x.vote(a, true), UNKNOWN);
            refused("told(" + a + ", 0)", x -> x.told(a, 0), UNKNOWN);
            refused("told(" + a + ", 14)", x -> x.told(a, 14), UNKNOWN);
            refused("words(" + a + ")", x -> x.words(a), UNKNOWN);
            refused("holds(" + a + ", 0, 0, 0)", x -> x.holds(a, 0, 0, 0), UNKNOWN);
            refused("holds(" + a + ", 8, 10, 4)", x -> x.holds(a, 8, 10, 4), UNKNOWN);
            refused("cost(0, " + a + ")", x -> x.cost(0, a), UNKNOWN);
            for (int b : new int[] {0, 5, a}) {
                refused("move(" + a + ", " + b + ")", x -> x.move(a, b), UNKNOWN);
                refused("move(" + b + ", " + a + ")", x -> x.move(b, a), UNKNOWN);
                refused("melt(" + a + ", " + b + ")", x -> x.melt(a, b), UNKNOWN);
                refused("melt(" + b + ", " + a + ")", x -> x.melt(b, a), UNKNOWN);
                refused("join(" + a + ", " + b + ", NONE, NONE)", x -> x.join(a, b, NONE, NONE), UNKNOWN);
                refused("join(" + b + ", " + a + ", NONE, NONE)", x -> x.join(b, a, NONE, NONE), UNKNOWN);
                refused("join(" + a + ", 3, NONE, " + b + ")", x -> x.join(a, 3, NONE, b), UNKNOWN);
            }
        }
    }

    private void unknownAsks() {
        int[] none = {-1, asks, asks + 1, 30, 32, LEAST, MOST};
        for (int k : none) {
            refused("found(" + k + ", 0, 0)", x -> x.found(k, 0, 0), UNKNOWN);
            refused("found(" + k + ", 0, 3)", x -> x.found(k, 0, 3), UNKNOWN);
            refused("cost(" + k + ", 0)", x -> x.cost(k, 0), UNKNOWN);
            refused("cost(" + k + ", 5)", x -> x.cost(k, 5), UNKNOWN);
            refused("asked(" + k + ", 0)", x -> x.asked(k, 0), UNKNOWN);
            refused("asked(" + k + ", 4)", x -> x.asked(k, 4), UNKNOWN);
        }
    }

    private void bookAndRules() {
        int[] wrong = {-1, 40, 64, LEAST, MOST};
        for (int w : wrong) {
            refused("fold(" + w + ", 0)", x -> x.fold(w, 0), OUTSIDE);
            refused("fold(5, " + w + ")", x -> x.fold(5, w), OUTSIDE);
            refused("fold(" + w + ", " + w + ")", x -> x.fold(w, w), OUTSIDE);
            refused("changed(" + w + ")", x -> x.changed(w), UNKNOWN);
            refused("rule(" + w + ", 1)", x -> x.rule(w, 1), OUTSIDE);
        }
        refused("changed(10)", x -> x.changed(10), UNKNOWN);
        refused("rule(2, 1)", x -> x.rule(2, 1), OUTSIDE);
        refused("rule(0, -1)", x -> x.rule(0, -1), OUTSIDE);
        refused("rule(0, 11)", x -> x.rule(0, 11), OUTSIDE);
        refused("rule(1, -1)", x -> x.rule(1, -1), OUTSIDE);
        refused("rule(1, 201)", x -> x.rule(1, 201), OUTSIDE);
    }

    private void newAnswers() {
        long[] wrongWords = {-1, 1L << 40, Long.MIN_VALUE, Long.MAX_VALUE};
        for (long words : wrongWords) {
            refused("answer(" + words + ", ..)", x -> everywhere(x, words, 1), OUTSIDE);
        }
        refused("answer, steps -1", x -> everywhere(x, 1, -1), OUTSIDE);
        refused("answer, steps 10000", x -> everywhere(x, 1, 10000), OUTSIDE);
        for (int set : new int[] {0, -1, 1024, LEAST}) {
            refused("answer, products " + set, x -> x.answer(1, 1, set, 1, 1), OUTSIDE);
            refused("answer, editions " + set, x -> x.answer(1, 1, 1, set, 1), OUTSIDE);
            refused("answer, roles " + set, x -> x.answer(1, 1, 1, 1, set), OUTSIDE);
        }
        refused("answer, products 256", x -> x.answer(1, 1, 256, 1, 1), OUTSIDE);
        refused("answer, roles 16", x -> x.answer(1, 1, 1, 1, 16), OUTSIDE);
        if (answers == 24) {
            refused("answer", x -> everywhere(x, 1, 1), FULL);
            refused("join", x -> x.join(0, 1, 2, NONE), FULL);
        }
    }

    private void newAsks() {
        long[] wrongWords = {-1, 1L << 40, Long.MIN_VALUE, Long.MAX_VALUE};
        for (long words : wrongWords) {
            refused("ask(" + words + ", ..)", x -> askOpen(x, words), OUTSIDE);
        }
        for (int value : WILD) {
            refused("ask, product " + value, x -> x.ask(1, value, 0, 0), OUTSIDE);
            refused("ask, edition " + value, x -> x.ask(1, 0, value, 0), OUTSIDE);
            refused("ask, role " + value, x -> x.ask(1, 0, 0, value), OUTSIDE);
        }
        refused("ask, product 8", x -> x.ask(1, 8, 0, 0), OUTSIDE);
        refused("ask, edition 10", x -> x.ask(1, 0, 10, 0), OUTSIDE);
        refused("ask, role 4", x -> x.ask(1, 0, 0, 4), OUTSIDE);
        if (asks == 30) {
            refused("ask", x -> x.ask(1, 0, 0, 0), FULL);
        }
    }

    private void whats() {
        for (int what : new int[] {-1, 14, 32, LEAST, MOST}) {
            refused("count(" + what + ")", x -> x.count(what), OUTSIDE);
            refused("quarrel(0, " + what + ")", x -> x.quarrel(0, what), OUTSIDE);
            refused("quarrel(-1, " + what + ")", x -> x.quarrel(-1, what), OUTSIDE);
            for (int a = 0; a < Math.min(answers, 9); a++) {
                int of = a;
                refused("told(" + a + ", " + what + ")", x -> x.told(of, what), OUTSIDE);
            }
            for (int k = 0; k < Math.min(asks, 4); k++) {
                int of = k;
                refused("found(" + k + ", 0, " + what + ")", x -> x.found(of, 0, what), OUTSIDE);
                refused("asked(" + k + ", " + what + ")", x -> x.asked(of, what), OUTSIDE);
            }
        }
        refused("count(9)", x -> x.count(9), OUTSIDE);
        refused("quarrel(0, 5)", x -> x.quarrel(0, 5), OUTSIDE);
        refused("quarrel(9999, 5)", x -> x.quarrel(9999, 5), OUTSIDE);
    }

    private void joins() {
        int[][] not = {{0, 0, NONE, NONE}, {0, 1, 0, NONE}, {0, 1, 1, NONE}, {0, 1, 2, 2}, {0, 1, 2, 0}, {3, 0, NONE, NONE},
            {0, 3, NONE, NONE}, {0, 1, 4, NONE}, {0, 1, 2, 3}, {5, 0, NONE, NONE}, {0, 5, NONE, NONE}, {0, 1, 6, NONE},
            {0, 1, 2, 5}, {0, 1, NONE, 2}, {3, 3, NONE, NONE}, {0, 0, NONE, 0}};
        for (int[] p : not) {
            refused("join " + java.util.Arrays.toString(p), x -> x.join(p[0], p[1], p[2], p[3]), NOT);
        }
        refused("join(0, NONE, NONE, NONE)", x -> x.join(0, NONE, NONE, NONE), UNKNOWN);
        refused("join(NONE, 0, NONE, NONE)", x -> x.join(NONE, 0, NONE, NONE), UNKNOWN);
    }

    private void bindsAndConfirms() {
        for (int things : new int[] {-1, 1024, LEAST, MOST}) {
            for (int a : new int[] {0, 3, 5, 6}) {
                refused("bind(" + a + ", " + things + ")", x -> x.bind(a, things), OUTSIDE);
            }
        }
        for (int a : new int[] {3, 4, 5, 6}) {
            refused("bind(" + a + ", 0)", x -> x.bind(a, 0), NOT);
            refused("bind(" + a + ", 1023)", x -> x.bind(a, 1023), NOT);
            refused("confirm(" + a + ")", x -> x.confirm(a), NOT);
        }
        for (int a : new int[] {5, 6}) {
            refused("vote(" + a + ", true)", x -> x.vote(a, true), NOT);
            refused("vote(" + a + ", false)", x -> x.vote(a, false), NOT);
        }
    }

    private void moves() {
        int[][] not = {{0, 0}, {3, 3}, {5, 0}, {5, 2}, {6, 1}, {6, 0}, {5, 5}, {2, 5}, {1, 6}, {0, 3}, {1, 3}, {0, 4}, {2, 4},
            {7, 8}};
        for (int[] p : not) {
            refused("move(" + p[0] + ", " + p[1] + ")", x -> x.move(p[0], p[1]), NOT);
        }
    }

    private void melts() {
        int[][] not = {{0, 0}, {3, 3}, {5, 5}, {0, 1}, {1, 0}, {0, 7}, {7, 0}, {0, 3}, {3, 0}, {3, 4}, {0, 5}, {5, 0},
            {2, 6}, {6, 2}};
        for (int[] p : not) {
            refused("melt(" + p[0] + ", " + p[1] + ")", x -> x.melt(p[0], p[1]), NOT);
        }
    }

    private void holdsAndCosts() {
        for (int a : new int[] {0, 3, 5, 6, 8}) {
            for (int value : new int[] {-1, 10, 32, LEAST, MOST}) {
                refused("holds(" + a + ", " + value + ", 0, 0)", x -> x.holds(a, value, 0, 0), OUTSIDE);
                refused("holds(" + a + ", 0, " + value + ", 0)", x -> x.holds(a, 0, value, 0), OUTSIDE);
                refused("holds(" + a + ", 0, 0, " + value + ")", x -> x.holds(a, 0, 0, value), OUTSIDE);
            }
        }
        int[][] not = {{0, 5}, {0, 6}, {0, 8}, {2, 0}, {2, 2}, {3, 0}, {3, 5}};
        for (int[] p : not) {
            refused("cost(" + p[0] + ", " + p[1] + ")", x -> x.cost(p[0], p[1]), NOT);
        }
    }
}
