import java.util.Random;

/** Long runs of calls drawn from fixed seeds, each answer held against the plain model's; up to 512 calls an object. */
public final class ModelTest {
    private static final int CALLS = 512;
    private static final int[] WILD = {-1, -2, 24, 30, 40, 63, 64, 1024, 10000, Integer.MIN_VALUE, Integer.MAX_VALUE};

    private final Random random;
    private final Due due;
    private final AnswerKeeper x = new AnswerKeeper();
    private final PlainModel y = new PlainModel();
    private final int wordSpan;
    private final int stepSpan;
    private final int wildness;
    private final int changeShare;

    private ModelTest(long seed, Due due) {
        this.random = new Random(seed);
        this.due = due;
        this.wordSpan = 2 + random.nextInt(39);
        this.stepSpan = 1 + random.nextInt(3);
        this.wildness = random.nextInt(40);
        this.changeShare = 20 + random.nextInt(70);
    }

    public static void main(String[] args) {
        int runs = args.length > 0 ? Integer.parseInt(args[0]) : 400;
        Due due = new Due();
        for (int seed = 0; seed < runs; seed++) {
            due.part("seed " + seed);
            new ModelTest(seed, due).run(seed % 4 == 0);
        }
        due.end();
    }

    private void run(boolean tellAll) {
        int changes = tellAll ? 90 : CALLS;
        for (int n = 0; n < changes; n++) {
            if (tellAll || random.nextInt(100) < changeShare) {
                change();
            } else {
                tell();
            }
        }
        if (tellAll) {
            tellAll(CALLS - changes);
        }
    }

    private int any(int bound) {
        if (random.nextInt(1000) < wildness) {
            return WILD[random.nextInt(WILD.length)];
        }
        return random.nextInt(bound);
    }

    private int knownAnswer() {
        int count = y.count(0);
        return count == 0 ? any(24) : any(random.nextInt(30) == 0 ? count + 1 : count);
    }

    private int knownAsk() {
        int count = y.count(6);
        return count == 0 ? any(30) : any(random.nextInt(30) == 0 ? count + 1 : count);
    }

    private int anyOrNone(int bound) {
        return random.nextInt(2) == 0 ? -1 : any(bound);
    }

    private long anyWords() {
        if (random.nextInt(1000) < wildness) {
            long[] wild = {-1L, 1L << 40, (1L << 40) - 1, Long.MIN_VALUE, Long.MAX_VALUE, 0L, 1L << 39};
            return wild[random.nextInt(wild.length)];
        }
        long words = 0;
        int many = random.nextInt(6);
        for (int k = 0; k < many; k++) {
            words |= 1L << random.nextInt(wordSpan);
        }
        return words;
    }

    private int anySet(int bound) {
        if (random.nextInt(1000) < wildness) {
            return random.nextInt(4) == 0 ? 0 : WILD[random.nextInt(WILD.length)];
        }
        int all = (1 << bound) - 1;
        int set = random.nextInt(3) == 0 ? all : (random.nextInt() | random.nextInt()) & all;
        return set == 0 ? 1 : set;
    }

    private void change() {
        switch (random.nextInt(24)) {
            case 0: case 1: {
                int w = any(wordSpan);
                int to = random.nextInt(3) == 0 ? w : any(wordSpan);
                due.is("fold(" + w + ", " + to + ")", x.fold(w, to), y.fold(w, to));
                break;
            }
            case 2: case 3: {
                int thing = any(10);
                due.is("changed(" + thing + ")", x.changed(thing), y.changed(thing));
                break;
            }
            case 4: {
                int what = any(2);
                int v = random.nextInt(4) == 0 ? any(201) : any(what == 0 ? 11 : 45);
                due.is("rule(" + what + ", " + v + ")", x.rule(what, v), y.rule(what, v));
                break;
            }
            case 5: case 6: case 7: case 8:
                newAnswer();
                break;
            case 9: case 10: case 11:
                newJoined();
                break;
            case 12: case 13: {
                int a = knownAnswer();
                int things = random.nextInt(5) == 0 ? any(1024) : random.nextInt(1024) & random.nextInt(1024);
                due.is("bind(" + a + ", " + things + ")", x.bind(a, things), y.bind(a, things));
                break;
            }
            case 14: {
                int a = knownAnswer();
                due.is("confirm(" + a + ")", x.confirm(a), y.confirm(a));
                break;
            }
            case 15: case 16: {
                int a = knownAnswer();
                int b = knownAnswer();
                due.is("move(" + a + ", " + b + ")", x.move(a, b), y.move(a, b));
                break;
            }
            case 17: {
                int a = knownAnswer();
                int b = knownAnswer();
                due.is("melt(" + a + ", " + b + ")", x.melt(a, b), y.melt(a, b));
                break;
            }
            case 18: case 19: {
                int a = knownAnswer();
                boolean up = random.nextInt(3) != 0;
                for (int n = random.nextInt(3) == 0 ? 4 : 1; n > 0; n--) {
                    due.is("vote(" + a + ", " + up + ")", x.vote(a, up), y.vote(a, up));
                }
                break;
            }
            default:
                newAsk();
                break;
        }
    }

    private void newAnswer() {
        long words = anyWords();
        int steps = random.nextInt(50) == 0 ? any(10000) : any(stepSpan);
        int products = anySet(8);
        int editions = anySet(10);
        int roles = anySet(4);
        due.is("answer(" + words + ", " + steps + ", " + products + ", " + editions + ", " + roles + ")",
                x.answer(words, steps, products, editions, roles), y.answer(words, steps, products, editions, roles));
    }

    private void newJoined() {
        int a = knownAnswer();
        int b = knownAnswer();
        int c = random.nextInt(2) == 0 ? -1 : knownAnswer();
        int d = random.nextInt(2) == 0 ? -1 : knownAnswer();
        due.is("join(" + a + ", " + b + ", " + c + ", " + d + ")", x.join(a, b, c, d), y.join(a, b, c, d));
    }

    private void newAsk() {
        long words = anyWords();
        int product = anyOrNone(8);
        int edition = anyOrNone(10);
        int role = anyOrNone(4);
        due.is("ask(" + words + ", " + product + ", " + edition + ", " + role + ")",
                x.ask(words, product, edition, role), y.ask(words, product, edition, role));
    }

    private void tell() {
        int a = knownAnswer();
        int ask = knownAsk();
        switch (random.nextInt(8)) {
            case 0: case 1: {
                int what = any(14);
                due.is("told(" + a + ", " + what + ")", x.told(a, what), y.told(a, what));
                break;
            }
            case 2:
                due.is("words(" + a + ")", x.words(a), y.words(a));
                break;
            case 3: {
                int product = any(8);
                int edition = any(10);
                int role = any(4);
                due.is("holds(" + a + ", " + product + ", " + edition + ", " + role + ")",
                        x.holds(a, product, edition, role), y.holds(a, product, edition, role));
                break;
            }
            case 4: {
                int what = any(9);
                due.is("count(" + what + ")", x.count(what), y.count(what));
                break;
            }
            case 5: {
                int i = any(6);
                int what = any(5);
                due.is("quarrel(" + i + ", " + what + ")", x.quarrel(i, what), y.quarrel(i, what));
                break;
            }
            case 6: {
                int i = any(5);
                int what = any(3);
                due.is("found(" + ask + ", " + i + ", " + what + ")", x.found(ask, i, what), y.found(ask, i, what));
                due.is("cost(" + ask + ", " + a + ")", x.cost(ask, a), y.cost(ask, a));
                break;
            }
            default: {
                int what = any(4);
                due.is("asked(" + ask + ", " + what + ")", x.asked(ask, what), y.asked(ask, what));
                break;
            }
        }
    }

    /** Ends a run with all that can be told, as far as the calls reach. */
    private void tellAll(int most) {
        int left = most;
        for (int what = 0; what <= 8 && left > 0; what++, left--) {
            due.is("count(" + what + ")", x.count(what), y.count(what));
        }
        for (int k = 0; k < y.count(6); k++) {
            for (int what = 0; what < 4 && left > 0; what++, left--) {
                due.is("asked(" + k + ", " + what + ")", x.asked(k, what), y.asked(k, what));
            }
        }
        for (int a = 0; a < y.count(0); a++) {
            for (int what = 0; what < 14 && left > 0; what++, left--) {
                due.is("told(" + a + ", " + what + ")", x.told(a, what), y.told(a, what));
            }
        }
        for (; left > 0; left--) {
            tell();
        }
    }
}
