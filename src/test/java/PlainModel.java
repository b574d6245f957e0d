import java.util.ArrayList;
import java.util.Comparator;
import java.util.HashSet;
import java.util.List;
import java.util.Set;
import java.util.TreeSet;

/**
 * The document word by word, by other means than the program: sets of Integers, links that are walked, a list of
 * all that happened; nothing is kept that can be worked out anew.
 */
final class PlainModel {
    static final int NONE = -1, UNKNOWN = -1001, OUTSIDE = -1002, NOT = -1003, FULL = -1004;
    private static final int[] SIZES = {8, 10, 4};

    private static final class Entry {
        boolean plain;
        TreeSet<Integer> words = new TreeSet<>();
        int steps;
        List<TreeSet<Integer>> sets = new ArrayList<>();
        TreeSet<Integer> things = new TreeSet<>();
        int sureSince;
        int votes;
        List<Entry> parts = new ArrayList<>();
        Entry leadsTo;
    }

    private static final class Question {
        TreeSet<Integer> words;
        int[] values;
    }

    private final int[] book = new int[40];
    private final List<Integer> changes = new ArrayList<>();
    private final List<Entry> entries = new ArrayList<>();
    private final List<Question> questions = new ArrayList<>();
    private int near = 2;
    private int limit = 20;

    PlainModel() {
        for (int w = 0; w < 40; w++) {
            book[w] = w;
        }
    }

    private static TreeSet<Integer> members(long set) {
        TreeSet<Integer> result = new TreeSet<>();
        for (int k = 0; k < 63; k++) {
            if ((set >> k) % 2 != 0) {
                result.add(k);
            }
        }
        return result;
    }

    private static long number(Set<Integer> set) {
        long result = 0;
        for (int k : set) {
            result += (long) Math.pow(2, k);
        }
        return result;
    }

    private static TreeSet<Integer> common(Set<Integer> x, Set<Integer> y) {
        TreeSet<Integer> result = new TreeSet<>(x);
        result.retainAll(y);
        return result;
    }

    private static int without(Set<Integer> x, Set<Integer> y) {
        TreeSet<Integer> result = new TreeSet<>(x);
        result.removeAll(y);
        return result.size();
    }

    private TreeSet<Integer> folded(Set<Integer> words) {
        TreeSet<Integer> result = new TreeSet<>();
        for (int w : words) {
            result.add(book[w]);
        }
        return result;
    }

    private int far(Set<Integer> x, Set<Integer> y) {
        return without(folded(x), folded(y)) + without(folded(y), folded(x));
    }

    private boolean known(int a) {
        return a >= 0 && a < entries.size();
    }

    private static Entry end(Entry x) {
        return x.leadsTo == null ? x : end(x.leadsTo);
    }

    private static boolean plainNow(Entry x) {
        return x.plain && x.leadsTo == null;
    }

    private TreeSet<Integer> wordsOf(Entry x) {
        TreeSet<Integer> result = new TreeSet<>(x.words);
        for (Entry part : x.parts) {
            result.addAll(wordsOf(end(part)));
        }
        return result;
    }

    private TreeSet<Integer> thingsOf(Entry x) {
        TreeSet<Integer> result = new TreeSet<>(x.things);
        for (Entry part : x.parts) {
            result.addAll(thingsOf(end(part)));
        }
        return result;
    }

    private TreeSet<Integer> setOf(Entry x, int aspect) {
        if (x.plain) {
            return x.sets.get(aspect);
        }
        TreeSet<Integer> result = null;
        for (Entry part : x.parts) {
            TreeSet<Integer> of = setOf(end(part), aspect);
            result = result == null ? of : common(result, of);
        }
        return result;
    }

    private boolean doubted(Entry x) {
        if (x.leadsTo != null) {
            return false;
        }
        for (Entry part : x.parts) {
            if (doubted(end(part))) {
                return true;
            }
        }
        for (int time = x.sureSince; time < changes.size(); time++) {
            if (x.things.contains(changes.get(time))) {
                return true;
            }
        }
        return false;
    }

    private boolean hasPart(Entry whole, Entry part) {
        for (Entry p : whole.parts) {
            if (end(p) == part || hasPart(end(p), part)) {
                return true;
            }
        }
        return false;
    }

    int fold(int w, int to) {
        if (w < 0 || w > 39 || to < 0 || to > 39) {
            return OUTSIDE;
        }
        int was = book[w];
        book[w] = to;
        return was;
    }

    int changed(int thing) {
        if (thing < 0 || thing > 9) {
            return UNKNOWN;
        }
        changes.add(thing);
        int state = 0;
        for (int change : changes) {
            state += change == thing ? 1 : 0;
        }
        return state;
    }

    int rule(int what, int v) {
        if (what < 0 || what > 1 || v < 0 || v > (what == 0 ? 10 : 200)) {
            return OUTSIDE;
        }
        int was = what == 0 ? near : limit;
        if (what == 0) {
            near = v;
        } else {
            limit = v;
        }
        return was;
    }

    int answer(long words, int steps, int products, int editions, int roles) {
        if (words < 0 || words > 1099511627775L || steps < 0 || steps > 9999 || products < 1 || products > 255
                || editions < 1 || editions > 1023 || roles < 1 || roles > 15) {
            return OUTSIDE;
        }
        if (entries.size() == 24) {
            return FULL;
        }
        Entry x = new Entry();
        x.plain = true;
        x.words = members(words);
        x.steps = steps;
        x.sets.add(members(products));
        x.sets.add(members(editions));
        x.sets.add(members(roles));
        x.sureSince = changes.size();
        entries.add(x);
        return entries.size() - 1;
    }

    int join(int a, int b, int c, int d) {
        if (!known(a) || !known(b) || c != NONE && !known(c) || d != NONE && !known(d)) {
            return UNKNOWN;
        }
        if (c == NONE && d != NONE) {
            return NOT;
        }
        List<Integer> numbers = new ArrayList<>(List.of(a, b));
        if (c != NONE) {
            numbers.add(c);
        }
        if (d != NONE) {
            numbers.add(d);
        }
        Entry x = new Entry();
        for (int n : numbers) {
            if (!plainNow(entries.get(n))) {
                return NOT;
            }
            x.parts.add(entries.get(n));
        }
        if (new HashSet<>(numbers).size() < numbers.size()) {
            return NOT;
        }
        if (entries.size() == 24) {
            return FULL;
        }
        entries.add(x);
        return entries.size() - 1;
    }

    int bind(int a, int things) {
        if (!known(a)) {
            return UNKNOWN;
        }
        if (things < 0 || things > 1023) {
            return OUTSIDE;
        }
        Entry x = entries.get(a);
        if (!plainNow(x)) {
            return NOT;
        }
        int was = (int) number(x.things);
        x.things = members(things);
        return was;
    }

    int confirm(int a) {
        if (!known(a)) {
            return UNKNOWN;
        }
        Entry x = entries.get(a);
        if (!plainNow(x)) {
            return NOT;
        }
        int was = doubted(x) ? 1 : 0;
        x.sureSince = changes.size();
        return was;
    }

    int move(int a, int b) {
        if (!known(a) || !known(b)) {
            return UNKNOWN;
        }
        Entry x = entries.get(a);
        Entry to = end(entries.get(b));
        if (x.leadsTo != null || to == x || hasPart(to, x)) {
            return NOT;
        }
        x.leadsTo = entries.get(b);
        return entries.indexOf(end(x));
    }

    int melt(int a, int b) {
        if (!known(a) || !known(b)) {
            return UNKNOWN;
        }
        Entry x = entries.get(a);
        Entry y = entries.get(b);
        if (a == b || !plainNow(x) || !plainNow(y) || x.steps != y.steps) {
            return NOT;
        }
        int like = 0;
        boolean allInX = true;
        boolean allInY = true;
        for (int aspect = 0; aspect < 3; aspect++) {
            like += x.sets.get(aspect).equals(y.sets.get(aspect)) ? 1 : 0;
            allInX &= x.sets.get(aspect).containsAll(y.sets.get(aspect));
            allInY &= y.sets.get(aspect).containsAll(x.sets.get(aspect));
        }
        if (like < 2 && !allInX && !allInY) {
            return NOT;
        }
        x.words.addAll(y.words);
        x.things.addAll(y.things);
        for (int aspect = 0; aspect < 3; aspect++) {
            x.sets.get(aspect).addAll(y.sets.get(aspect));
        }
        x.sureSince = Math.min(x.sureSince, y.sureSince);
        x.votes += y.votes;
        y.leadsTo = x;
        return 1;
    }

    int vote(int a, boolean up) {
        if (!known(a)) {
            return UNKNOWN;
        }
        Entry x = entries.get(a);
        if (x.leadsTo != null) {
            return NOT;
        }
        x.votes = up ? x.votes + 1 : x.votes - 1;
        return x.votes;
    }

    int told(int a, int what) {
        if (!known(a)) {
            return UNKNOWN;
        }
        if (what < 0 || what > 13) {
            return OUTSIDE;
        }
        Entry x = entries.get(a);
        if (what == 0) {
            return x.leadsTo != null ? 2 : x.plain ? 0 : 1;
        } else if (what == 1) {
            return entries.indexOf(end(x));
        } else if (what == 2) {
            return x.plain ? x.steps : NONE;
        } else if (what <= 5) {
            return (int) number(setOf(x, what - 3));
        } else if (what == 6) {
            return (int) number(thingsOf(x));
        } else if (what == 7) {
            return doubted(x) ? 1 : 0;
        } else if (what == 8) {
            return x.votes;
        } else if (what == 9) {
            return x.parts.size();
        }
        return what - 10 < x.parts.size() ? entries.indexOf(end(x.parts.get(what - 10))) : NONE;
    }

    long words(int a) {
        return known(a) ? number(wordsOf(entries.get(a))) : UNKNOWN;
    }

    int holds(int a, int product, int edition, int role) {
        if (!known(a)) {
            return UNKNOWN;
        }
        int[] values = {product, edition, role};
        boolean all = true;
        for (int aspect = 0; aspect < 3; aspect++) {
            if (values[aspect] < 0 || values[aspect] >= SIZES[aspect]) {
                return OUTSIDE;
            }
            all &= setOf(entries.get(a), aspect).contains(values[aspect]);
        }
        return all && entries.get(a).leadsTo == null ? 1 : 0;
    }

    int count(int what) {
        int count = 0;
        switch (what) {
            case 0:
                return entries.size();
            case 1: case 2: case 3:
                for (int a = 0; a < entries.size(); a++) {
                    count += told(a, 0) == what - 1 ? 1 : 0;
                }
                return count;
            case 4:
                for (Entry x : entries) {
                    count += doubted(x) ? 1 : 0;
                }
                return count;
            case 5:
                return quarrels().size();
            case 6:
                return questions.size();
            case 7:
                for (int k = 0; k < questions.size(); k++) {
                    count += inVain(k) ? 1 : 0;
                }
                return count;
            case 8:
                for (int k = 0; k < questions.size(); k++) {
                    count = Math.max(count, asked(k, 1) + 1);
                }
                return count;
            default:
                return OUTSIDE;
        }
    }

    private List<int[]> quarrels() {
        List<int[]> pairs = new ArrayList<>();
        for (int a = 0; a < entries.size(); a++) {
            for (int b = a + 1; b < entries.size(); b++) {
                Entry x = entries.get(a);
                Entry y = entries.get(b);
                if (plainNow(x) && plainNow(y) && far(x.words, y.words) <= near && x.steps != y.steps) {
                    int[] row = {a, b, 0, 0, 0};
                    boolean meet = true;
                    for (int aspect = 0; aspect < 3; aspect++) {
                        TreeSet<Integer> both = common(x.sets.get(aspect), y.sets.get(aspect));
                        meet &= !both.isEmpty();
                        row[2 + aspect] = both.isEmpty() ? NONE : both.first();
                    }
                    if (meet) {
                        pairs.add(row);
                    }
                }
            }
        }
        return pairs;
    }

    int quarrel(int i, int what) {
        if (what < 0 || what > 4) {
            return OUTSIDE;
        }
        List<int[]> pairs = quarrels();
        return i < 0 || i >= pairs.size() ? NONE : pairs.get(i)[what];
    }

    int ask(long words, int product, int edition, int role) {
        int[] values = {product, edition, role};
        for (int aspect = 0; aspect < 3; aspect++) {
            if (values[aspect] < NONE || values[aspect] >= SIZES[aspect]) {
                return OUTSIDE;
            }
        }
        if (words < 0 || words > 1099511627775L) {
            return OUTSIDE;
        }
        if (questions.size() == 30) {
            return FULL;
        }
        Question q = new Question();
        q.words = members(words);
        q.values = values;
        questions.add(q);
        return questions.size() - 1;
    }

    private boolean fit(Question q, Entry x) {
        boolean fit = x.leadsTo == null;
        for (int aspect = 0; aspect < 3; aspect++) {
            TreeSet<Integer> set = setOf(x, aspect);
            fit &= !set.isEmpty() && (q.values[aspect] == NONE || set.contains(q.values[aspect]));
        }
        return fit;
    }

    private int openAspect(Question q, Entry x) {
        for (int aspect = 0; aspect < 3; aspect++) {
            if (q.values[aspect] == NONE && setOf(x, aspect).size() < SIZES[aspect]) {
                return aspect;
            }
        }
        return NONE;
    }

    private int costOf(Set<Integer> words, Question q, Entry x) {
        int cost = 10 * without(folded(words), folded(wordsOf(x))) + 3 * without(folded(wordsOf(x)), folded(words));
        if (doubted(x)) {
            cost += 15;
        }
        if (openAspect(q, x) != NONE) {
            cost += 5;
        }
        return cost - (x.votes > 9 ? 9 : x.votes < -9 ? -9 : x.votes);
    }

    private List<int[]> finds(Set<Integer> words, Question q) {
        List<int[]> rows = new ArrayList<>();
        for (int a = 0; a < entries.size(); a++) {
            Entry x = entries.get(a);
            if (fit(q, x) && costOf(words, q, x) <= limit) {
                rows.add(new int[] {a, costOf(words, q, x), openAspect(q, x)});
            }
        }
        rows.sort(Comparator.comparingInt(row -> row[1]));
        return rows;
    }

    int found(int ask, int i, int what) {
        if (ask < 0 || ask >= questions.size()) {
            return UNKNOWN;
        }
        if (what < 0 || what > 2) {
            return OUTSIDE;
        }
        List<int[]> rows = finds(questions.get(ask).words, questions.get(ask));
        return i < 0 || i >= rows.size() ? NONE : rows.get(i)[what];
    }

    int cost(int ask, int a) {
        if (ask < 0 || ask >= questions.size() || !known(a)) {
            return UNKNOWN;
        }
        Question q = questions.get(ask);
        return fit(q, entries.get(a)) ? costOf(q.words, q, entries.get(a)) : NOT;
    }

    private boolean inVain(int ask) {
        return finds(questions.get(ask).words, questions.get(ask)).isEmpty();
    }

    private void spread(int ask, int mark, int[] marks) {
        marks[ask] = mark;
        for (int k = 0; k < questions.size(); k++) {
            if (marks[k] == NONE && inVain(k) && far(questions.get(ask).words, questions.get(k).words) <= near) {
                spread(k, mark, marks);
            }
        }
    }

    int asked(int ask, int what) {
        if (ask < 0 || ask >= questions.size()) {
            return UNKNOWN;
        }
        if (what < 0 || what > 3) {
            return OUTSIDE;
        }
        Question q = questions.get(ask);
        if (what == 3) {
            return finds(q.words, q).size();
        } else if (what == 0) {
            return inVain(ask) ? 1 : 0;
        } else if (!inVain(ask)) {
            return NONE;
        } else if (what == 2) {
            for (int w = 0; w < 40; w++) {
                Set<Integer> more = new TreeSet<>(q.words);
                more.add(w);
                if (!finds(more, q).isEmpty()) {
                    return w;
                }
            }
            return NONE;
        }
        int[] marks = new int[questions.size()];
        java.util.Arrays.fill(marks, NONE);
        int heaps = 0;
        for (int k = 0; k < questions.size(); k++) {
            if (inVain(k) && marks[k] == NONE) {
                spread(k, heaps, marks);
                heaps++;
            }
        }
        return marks[ask];
    }
}
