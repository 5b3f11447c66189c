import java.util.ArrayDeque;
import java.util.ArrayList;
import java.util.Arrays;
import java.util.Comparator;
import java.util.Deque;
import java.util.HashSet;
import java.util.LinkedHashSet;
import java.util.List;
import java.util.NoSuchElementException;
import java.util.Set;
import java.util.TreeSet;

/** The document said a second time, by sets and lists and without any short cut. */
final class Model {
    private static final class Book {
        List<List<String>> sentences = new ArrayList<>();
        List<String> unlike = new ArrayList<>();
        int[] weights = new int[0];
        Set<String> leaning = new HashSet<>();
        int budget = 100;
        int taken = 0;

        Book copy() {
            Book b = new Book();
            b.sentences = sentences;
            b.unlike = unlike;
            b.weights = weights.clone();
            b.leaning = new HashSet<>(leaning);
            b.budget = budget;
            b.taken = taken;
            return b;
        }
    }

    private record Fault(int place, int kind) { }

    private record Asked(int sentence, int gain, int cost) { }

    private static final Comparator<Asked> BY_RATE = (a, b) -> {
        int c = Long.compare((long) b.gain * a.cost, (long) a.gain * b.cost);
        return c != 0 ? c : Integer.compare(a.sentence, b.sentence);
    };

    private Book book = new Book();
    private final List<Integer> tape = new ArrayList<>();
    private final Deque<Book> past = new ArrayDeque<>();
    private int faultPlace = -1;
    private final int[] refused = new int[3];

    // ---- refusals

    private void there(boolean ok) {
        if (!ok) {
            refused[0]++;
            throw new NoSuchElementException();
        }
    }

    private void number(int n, int least, int most) {
        if (n < least || n > most) {
            refused[1]++;
            throw new IllegalArgumentException();
        }
    }

    private void state(boolean ok) {
        if (!ok) {
            refused[2]++;
            throw new IllegalStateException();
        }
    }

    private void sentenceThere(int s) {
        there(s >= 0 && s < n());
    }

    private void wordThere(int w) {
        there(w >= 0 && w < book.unlike.size());
    }

    private void act() {
        past.addLast(book.copy());
        if (past.size() > 8) {
            past.removeFirst();
        }
    }

    // ---- terms

    private int n() {
        return book.sentences.size();
    }

    private static Set<Integer> members(int set) {
        Set<Integer> all = new TreeSet<>();
        for (int s = 0; s < 16; s++) {
            if ((set & 1 << s) != 0) {
                all.add(s);
            }
        }
        return all;
    }

    private int all() {
        return (1 << n()) - 1;
    }

    private int length(int set) {
        int sum = 0;
        for (int s : members(set)) {
            for (String w : book.sentences.get(s)) {
                sum += w.length() + 1;
            }
        }
        return sum;
    }

    private Set<String> wordsIn(int set) {
        Set<String> words = new LinkedHashSet<>();
        for (int s : members(set)) {
            words.addAll(book.sentences.get(s));
        }
        return words;
    }

    private int weight(Set<String> words) {
        int sum = 0;
        for (String w : words) {
            sum += book.weights[book.unlike.indexOf(w)];
        }
        return sum;
    }

    private int covered(int set) {
        return weight(wordsIn(set));
    }

    private int chain(int s) {
        int own = 1 << s;
        boolean leans = book.leaning.contains(book.sentences.get(s).get(0));
        return leans && s != 0 ? own | chain(s - 1) : own;
    }

    private boolean whole(int set) {
        for (int s : members(set)) {
            if ((chain(s) & ~set) != 0) {
                return false;
            }
        }
        return true;
    }

    private int gain(int s, int set) {
        return covered(set | chain(s)) - covered(set);
    }

    private int cost(int s, int set) {
        return length(set | chain(s)) - length(set);
    }

    private boolean fits(int s, int set) {
        return (set & 1 << s) == 0 && length(set) + cost(s, set) <= book.budget;
    }

    // ---- the calls

    int feed(int a, int b, int c, int d, int e) {
        if (tape.size() + 20 > 600) {
            return -1;
        }
        for (int v : new int[] {a, b, c, d, e}) {
            tape.addAll(List.of(v >>> 24, v >>> 16 & 255, v >>> 8 & 255, v & 255));
        }
        return tape.size();
    }

    int text(int n) {
        number(n, 0, tape.size());
        StringBuilder sb = new StringBuilder();
        for (int i = 0; i < n; i++) {
            sb.append((char) (int) tape.get(i));
        }
        tape.clear();
        Fault fault = faultOf(sb.toString());
        faultPlace = fault == null ? -1 : fault.place;
        if (fault != null) {
            return fault.kind - 10;
        }
        act();
        Book b = new Book();
        b.budget = book.budget;
        for (String s : sb.toString().split("\\.")) {
            if (!s.isBlank()) {
                b.sentences.add(Arrays.asList(s.trim().split(" +")));
            }
        }
        Set<String> unlike = new LinkedHashSet<>();
        b.sentences.forEach(unlike::addAll);
        b.unlike = new ArrayList<>(unlike);
        b.weights = new int[b.unlike.size()];
        for (int w = 0; w < b.weights.length; w++) {
            String word = b.unlike.get(w);
            b.weights[w] = (int) b.sentences.stream().filter(s -> s.contains(word)).count();
        }
        book = b;
        return n();
    }

    // Every fault there is, each by its own rule; then the first of them.
    private static Fault faultOf(String t) {
        List<Fault> faults = new ArrayList<>();
        String valid = t;
        boolean open = false;
        for (int i = 0; i < t.length(); i++) {
            char c = t.charAt(i);
            boolean letter = c >= 'a' && c <= 'z';
            if (!letter && c != ' ' && !(c == '.' && open)) {
                faults.add(new Fault(i, 1));
                valid = t.substring(0, i);
                break;
            }
            open = letter || c == ' ' && open;
        }
        if (valid.length() == t.length() && open) {
            faults.add(new Fault(t.length(), 1));
        }
        int sentence = 0;
        int inOne = 0;
        Set<String> seen = new HashSet<>();
        for (int i = 0; i < valid.length(); i++) {
            char c = valid.charAt(i);
            if (c == '.') {
                sentence++;
                inOne = 0;
            }
            boolean starts = c >= 'a' && (i == 0 || valid.charAt(i - 1) < 'a');
            if (!starts) {
                continue;
            }
            String word = valid.substring(i).split("[ .]")[0];
            inOne++;
            seen.add(word);
            if (word.length() > 10) {
                faults.add(new Fault(i, 2));
            }
            if (sentence == 16 && inOne == 1 || inOne == 31 || seen.size() == 49) {
                faults.add(new Fault(i, 3));
            }
        }
        faults.sort(Comparator.comparingInt(Fault::place).thenComparingInt(Fault::kind));
        return faults.isEmpty() ? null : faults.get(0);
    }

    int fault() {
        return faultPlace;
    }

    int weigh(int word, int weight) {
        wordThere(word);
        number(weight, 0, 1000);
        act();
        int was = book.weights[word];
        book.weights[word] = weight;
        return was;
    }

    int lean(int word, boolean is) {
        wordThere(word);
        act();
        String w = book.unlike.get(word);
        return (is ? book.leaning.add(w) : book.leaning.remove(w)) ? 1 : 0;
    }

    int budget(int n) {
        number(n, 0, 9999);
        act();
        int was = book.budget;
        book.budget = n;
        return was;
    }

    int take(int s) {
        sentenceThere(s);
        state(fits(s, book.taken));
        act();
        int gain = gain(s, book.taken);
        book.taken |= chain(s);
        return gain;
    }

    int drop(int s) {
        sentenceThere(s);
        state((book.taken & 1 << s) != 0);
        act();
        int was = covered(book.taken);
        for (int t : members(book.taken)) {
            if ((chain(t) & 1 << s) != 0) {
                book.taken &= ~(1 << t);
            }
        }
        return was - covered(book.taken);
    }

    int undo() {
        if (past.isEmpty()) {
            return -1;
        }
        book = past.removeLast();
        return past.size();
    }

    int told(int what) {
        number(what, 0, 9);
        int[] answers = {n(), book.unlike.size(), book.budget, covered(all()), length(all()), tape.size(),
            past.size(), book.taken, covered(book.taken), length(book.taken)};
        return answers[what];
    }

    int sentence(int s, int what) {
        sentenceThere(s);
        number(what, 0, 7);
        int[] answers = {length(1 << s), book.sentences.get(s).size(), wordsIn(1 << s).size(), covered(1 << s),
            chain(s), gain(s, book.taken), cost(s, book.taken), fits(s, book.taken) ? 1 : 0};
        return answers[what];
    }

    long words(int s) {
        sentenceThere(s);
        long bits = 0;
        for (String w : book.sentences.get(s)) {
            bits |= 1L << book.unlike.indexOf(w);
        }
        return bits;
    }

    int word(int w, int what) {
        wordThere(w);
        number(what, 0, 3);
        String word = book.unlike.get(w);
        int in = 0;
        for (List<String> s : book.sentences) {
            in += s.contains(word) ? 1 : 0;
        }
        int[] answers = {book.weights[w], word.length(), in, book.leaning.contains(word) ? 1 : 0};
        return answers[what];
    }

    int letter(int w, int i) {
        wordThere(w);
        there(i >= 0 && i < book.unlike.get(w).length());
        return book.unlike.get(w).charAt(i);
    }

    private int setOf(List<Integer> steps) {
        int set = 0;
        for (int s : steps) {
            set |= chain(s);
        }
        return set;
    }

    private int single() {
        List<Asked> all = new ArrayList<>();
        for (int s = 0; s < n(); s++) {
            if (fits(s, 0) && gain(s, 0) > 0) {
                all.add(new Asked(s, gain(s, 0), 1));
            }
        }
        all.sort(BY_RATE);
        return all.isEmpty() ? -1 : all.get(0).sentence;
    }

    private int asks = 0;

    private List<Integer> steps(int kind) {
        List<Integer> steps = new ArrayList<>();
        asks = 0;
        while (true) {
            int set = setOf(steps);
            List<Asked> all = new ArrayList<>();
            for (int s = 0; s < n(); s++) {
                if (fits(s, set)) {
                    asks++;
                    if (gain(s, set) > 0) {
                        all.add(new Asked(s, gain(s, set), kind == 0 ? 1 : cost(s, set)));
                    }
                }
            }
            if (all.isEmpty()) {
                break;
            }
            all.sort(BY_RATE);
            steps.add(all.get(0).sentence);
        }
        int single = single();
        boolean swap = kind == 2 && single >= 0 && covered(chain(single)) > covered(setOf(steps));
        return swap ? List.of(single) : steps;
    }

    int greedy(int kind, int what) {
        number(kind, 0, 2);
        number(what, 0, 3);
        List<Integer> steps = steps(kind);
        int set = setOf(steps);
        return new int[] {set, covered(set), length(set), steps.size()}[what];
    }

    int step(int kind, int k) {
        number(kind, 0, 2);
        List<Integer> steps = steps(kind);
        there(k >= 0 && k < steps.size());
        return steps.get(k);
    }

    int lazy(int what) {
        number(what, 0, 2);
        if (what == 2) {
            steps(1);
            return asks;
        }
        int set = 0;
        int asked = 0;
        List<Asked> queue = new ArrayList<>();
        for (int s = 0; s < n(); s++) {
            asked++;
            if (gain(s, 0) > 0) {
                queue.add(new Asked(s, gain(s, 0), cost(s, 0)));
            }
        }
        while (!queue.isEmpty()) {
            queue.sort(BY_RATE);
            int s = queue.remove(0).sentence;
            if (!fits(s, set) || (chain(s) & ~set) == 0) {
                continue;
            }
            asked++;
            Asked now = new Asked(s, gain(s, set), cost(s, set));
            if (now.gain == 0) {
                continue;
            }
            if (queue.isEmpty() || BY_RATE.compare(now, queue.get(0)) < 0) {
                set |= chain(s);
            } else {
                queue.add(now);
            }
        }
        return what == 0 ? set : asked;
    }

    private int boundBy(int set) {
        List<Asked> others = new ArrayList<>();
        for (int s : members(all() & ~set)) {
            Set<String> own = wordsIn(1 << s);
            own.removeAll(wordsIn(set));
            others.add(new Asked(s, weight(own), length(1 << s)));
        }
        others.sort(BY_RATE);
        int bound = covered(set);
        int left = book.budget;
        for (Asked a : others) {
            if (a.cost > left) {
                return bound + a.gain * left / a.cost;
            }
            bound += a.gain;
            left -= a.cost;
        }
        return bound;
    }

    int bound(int what) {
        number(what, 0, 3);
        List<Integer> steps = steps(1);
        List<Integer> bounds = new ArrayList<>();
        for (int k = 0; k <= steps.size(); k++) {
            bounds.add(boundBy(setOf(steps.subList(0, k))));
        }
        int least = bounds.stream().min(Integer::compare).get();
        int share = least == 0 ? 1000 : covered(setOf(steps(2))) * 1000 / least;
        return new int[] {single(), least, bounds.indexOf(least), share}[what];
    }

    private List<Integer> wholes() {
        List<Integer> sets = new ArrayList<>();
        for (int set = 0; set <= all(); set++) {
            if (whole(set)) {
                sets.add(set);
            }
        }
        return sets;
    }

    private int bestOf(int budget, int without) {
        return wholes().stream()
            .filter(e -> length(e) <= budget && (without < 0 || (e & 1 << without) == 0))
            .min(Comparator.comparing((Integer e) -> -covered(e)).thenComparing(this::length)
                .thenComparing(e -> e)).get();
    }

    int best(int budget, int what) {
        number(budget, 0, 9999);
        number(what, 0, 2);
        int set = bestOf(budget, -1);
        return new int[] {set, covered(set), length(set)}[what];
    }

    int fewest(int what) {
        number(what, 0, 2);
        int all = covered(all());
        int set = wholes().stream().filter(e -> covered(e) == all)
            .min(Comparator.comparing((Integer e) -> Integer.bitCount(e)).thenComparing(this::length)
                .thenComparing(e -> e)).get();
        return new int[] {set, Integer.bitCount(set), length(set)}[what];
    }

    int shortest(int share, int what) {
        number(share, 0, 100);
        number(what, 0, 2);
        int all = covered(all());
        int set = wholes().stream().filter(e -> covered(e) * 100 >= all * share)
            .min(Comparator.comparing((Integer e) -> length(e)).thenComparing(e -> -covered(e))
                .thenComparing(e -> e)).get();
        return new int[] {set, covered(set), length(set)}[what];
    }

    int worth(int s) {
        sentenceThere(s);
        return covered(bestOf(book.budget, -1)) - covered(bestOf(book.budget, s));
    }

    int exchange(int what) {
        number(what, 0, 2);
        int[] found = {-1, -1, covered(book.taken)};
        for (int goes : members(book.taken)) {
            for (int comes : members(all() & ~book.taken)) {
                int set = book.taken - (1 << goes) + (1 << comes);
                if (whole(set) && length(set) <= book.budget && covered(set) > found[2]) {
                    found = new int[] {goes, comes, covered(set)};
                }
            }
        }
        return found[0] < 0 ? -1 : found[what];
    }

    int next(int budget) {
        number(budget, 0, 9999);
        int now = covered(bestOf(budget, -1));
        return wholes().stream().filter(e -> covered(e) > now).map(this::length)
            .min(Integer::compare).orElse(-1);
    }

    int likeness(int one, int other, int what) {
        sentenceThere(one);
        sentenceThere(other);
        number(what, 0, 1);
        Set<String> both = wordsIn(1 << one);
        both.retainAll(wordsIn(1 << other));
        int a = weight(both);
        int b = covered(1 << one | 1 << other);
        if (a == 0) {
            return what;
        }
        for (int d = b; d > 1; d--) {
            if (a % d == 0 && b % d == 0) {
                a /= d;
                b /= d;
            }
        }
        return what == 0 ? a : b;
    }

    long print() {
        long p = 0;
        for (int s = 0; s < n(); s++) {
            p = 31 * (31 * p + covered(1 << s)) + gain(s, book.taken);
        }
        return p;
    }

    int status(int what) {
        return what >= 0 && what <= 2 ? refused[what] : -1;
    }
}
