import java.util.NoSuchElementException;

/** A text of sentences, and short extracts of it that cover as much weight of words as they can. */
public final class CoverExtract {
    public static final int NONE = -1;

    private static final int MOST_BYTES = 600;
    private static final int BYTES_A_FEED = 20;
    private static final int MOST_SENTENCES = 16;
    private static final int MOST_WORDS_IN_ONE = 30;
    private static final int MOST_UNLIKE = 48;
    private static final int MOST_LETTERS = 10;
    private static final int MOST_WEIGHT = 1000;
    private static final int MOST_BUDGET = 9999;
    private static final int FIRST_BUDGET = 100;
    private static final int MOST_PAST = 8;
    private static final int HUNDREDTHS = 100;
    private static final int THOUSANDTHS = 1000;

    private static final int OUT_OF_PLACE = 1;
    private static final int LONG_WORD = 2;
    private static final int TOO_MANY = 3;
    private static final int FAULT_LESS = 10;

    private static final int NO_SUCH = 0;
    private static final int BAD_NUMBER = 1;
    private static final int BAD_STATE = 2;
    private static final int REASONS = 3;

    private static final int BY_GAIN = 0;
    private static final int BY_RATE = 1;
    private static final int OR_SINGLE = 2;

    private final byte[] tape = new byte[MOST_BYTES];
    private int tapeBytes = 0;
    private int faultPlace = NONE;
    private final int[] refused = new int[REASONS];
    private final State now = new State();
    private final Past past = new Past();
    private final Reader reader = new Reader();
    private final Climb climb = new Climb();
    private final Queue queue = new Queue();
    private final Ceiling ceiling = new Ceiling();
    private final Search search = new Search();
    private final Swap swap = new Swap();

    public CoverExtract() {
    }

    public int feed(int a, int b, int c, int d, int e) {
        if (tapeBytes + BYTES_A_FEED > MOST_BYTES) {
            return NONE;
        }
        putNumber(a);
        putNumber(b);
        putNumber(c);
        putNumber(d);
        putNumber(e);
        return tapeBytes;
    }

    public int text(int n) throws IllegalArgumentException {
        needNumber(n, 0, tapeBytes);
        tapeBytes = 0;
        int found = reader.read(tape, n);
        faultPlace = reader.place;
        if (found != 0) {
            return found - FAULT_LESS;
        }
        past.keep(now);
        reader.draft.budget = now.budget;
        now.copyFrom(reader.draft);
        now.linkChains();
        return now.sentences;
    }

    public int fault() {
        return faultPlace;
    }

    public int weigh(int word, int weight) throws NoSuchElementException, IllegalArgumentException {
        needWord(word);
        needNumber(weight, 0, MOST_WEIGHT);
        past.keep(now);
        int was = now.weights[word];
        now.weights[word] = weight;
        return was;
    }

    public int lean(int word, boolean is) throws NoSuchElementException {
        needWord(word);
        past.keep(now);
        boolean was = now.leans(word);
        long bit = 1L << word;
        now.leaning = is ? now.leaning | bit : now.leaning & ~bit;
        now.linkChains();
        return was == is ? 0 : 1;
    }

    public int budget(int n) throws IllegalArgumentException {
        needNumber(n, 0, MOST_BUDGET);
        past.keep(now);
        int was = now.budget;
        now.budget = n;
        return was;
    }

    public int take(int sentence) throws NoSuchElementException, IllegalStateException {
        needSentence(sentence);
        needState(now.fitsInto(sentence, now.taken));
        past.keep(now);
        int gain = now.gainOf(sentence, now.taken);
        now.taken |= now.chains[sentence];
        return gain;
    }

    public int drop(int sentence) throws NoSuchElementException, IllegalStateException {
        needSentence(sentence);
        needState(isIn(sentence, now.taken));
        past.keep(now);
        int before = now.coveredBy(now.taken);
        now.taken &= ~now.allThatNeed(sentence);
        return before - now.coveredBy(now.taken);
    }

    public int undo() {
        if (past.kept == 0) {
            return NONE;
        }
        past.giveBack(now);
        return past.kept;
    }

    public int told(int what) throws IllegalArgumentException {
        needNumber(what, 0, 9);
        switch (what) {
            case 0:
                return now.sentences;
            case 1:
                return now.unlike;
            case 2:
                return now.budget;
            case 3:
                return now.coveredBy(now.everySentence());
            case 4:
                return now.lengthOf(now.everySentence());
            case 5:
                return tapeBytes;
            case 6:
                return past.kept;
            case 7:
                return now.taken;
            case 8:
                return now.coveredBy(now.taken);
            default:
                return now.lengthOf(now.taken);
        }
    }

    public int sentence(int sentence, int what) throws NoSuchElementException, IllegalArgumentException {
        needSentence(sentence);
        needNumber(what, 0, 7);
        switch (what) {
            case 0:
                return now.lengths[sentence];
            case 1:
                return now.counts[sentence];
            case 2:
                return Long.bitCount(now.bags[sentence]);
            case 3:
                return now.weightOf(now.bags[sentence]);
            case 4:
                return now.chains[sentence];
            case 5:
                return now.gainOf(sentence, now.taken);
            case 6:
                return now.costOf(sentence, now.taken);
            default:
                return now.fitsInto(sentence, now.taken) ? 1 : 0;
        }
    }

    public long words(int sentence) throws NoSuchElementException {
        needSentence(sentence);
        return now.bags[sentence];
    }

    public int word(int word, int what) throws NoSuchElementException, IllegalArgumentException {
        needWord(word);
        needNumber(what, 0, 3);
        switch (what) {
            case 0:
                return now.weights[word];
            case 1:
                return now.lettersOf(word);
            case 2:
                return now.sentencesWith(word);
            default:
                return now.leans(word) ? 1 : 0;
        }
    }

    public int letter(int word, int i) throws NoSuchElementException {
        needWord(word);
        needElement(i >= 0 && i < now.lettersOf(word));
        return now.letterAt(word, i);
    }

    public int greedy(int kind, int what) throws IllegalArgumentException {
        needNumber(kind, BY_GAIN, OR_SINGLE);
        needNumber(what, 0, 3);
        climb.run(now, kind);
        switch (what) {
            case 0:
                return climb.set;
            case 1:
                return now.coveredBy(climb.set);
            case 2:
                return now.lengthOf(climb.set);
            default:
                return climb.count;
        }
    }

    public int step(int kind, int k) throws IllegalArgumentException, NoSuchElementException {
        needNumber(kind, BY_GAIN, OR_SINGLE);
        climb.run(now, kind);
        needElement(k >= 0 && k < climb.count);
        return climb.steps[k];
    }

    public int lazy(int what) throws IllegalArgumentException {
        needNumber(what, 0, 2);
        if (what == 2) {
            climb.run(now, BY_RATE);
            return climb.asked;
        }
        queue.run(now);
        return what == 0 ? queue.set : queue.asked;
    }

    public int bound(int what) throws IllegalArgumentException {
        needNumber(what, 0, 3);
        if (what == 0) {
            return Climb.pickFor(now, 0, false);
        }
        climb.run(now, BY_RATE);
        ceiling.run(now, climb);
        if (what == 1) {
            return ceiling.least;
        }
        if (what == 2) {
            return ceiling.behind;
        }
        if (ceiling.least == 0) {
            return THOUSANDTHS;
        }
        climb.run(now, OR_SINGLE);
        return now.coveredBy(climb.set) * THOUSANDTHS / ceiling.least;
    }

    public int best(int budget, int what) throws IllegalArgumentException {
        needNumber(budget, 0, MOST_BUDGET);
        needNumber(what, 0, 2);
        search.findMost(now, budget, NONE);
        if (what == 0) {
            return search.set;
        }
        return what == 1 ? search.covered : search.length;
    }

    public int fewest(int what) throws IllegalArgumentException {
        needNumber(what, 0, 2);
        search.findFewest(now);
        if (what == 0) {
            return search.set;
        }
        return what == 1 ? Integer.bitCount(search.set) : search.length;
    }

    public int shortest(int share, int what) throws IllegalArgumentException {
        needNumber(share, 0, HUNDREDTHS);
        needNumber(what, 0, 2);
        int all = now.coveredBy(now.everySentence());
        search.findShortest(now, (all * share + HUNDREDTHS - 1) / HUNDREDTHS);
        if (what == 0) {
            return search.set;
        }
        return what == 1 ? search.covered : search.length;
    }

    public int worth(int sentence) throws NoSuchElementException {
        needSentence(sentence);
        search.findMost(now, now.budget, NONE);
        int with = search.covered;
        if (!isIn(sentence, search.set)) {
            return 0;
        }
        search.findMost(now, now.budget, sentence);
        return with - search.covered;
    }

    public int exchange(int what) throws IllegalArgumentException {
        needNumber(what, 0, 2);
        swap.run(now);
        if (swap.goes == NONE) {
            return NONE;
        }
        if (what == 0) {
            return swap.goes;
        }
        return what == 1 ? swap.comes : swap.covered;
    }

    public int next(int budget) throws IllegalArgumentException {
        needNumber(budget, 0, MOST_BUDGET);
        search.findMost(now, budget, NONE);
        search.findShortest(now, search.covered + 1);
        return search.found ? search.length : NONE;
    }

    public int likeness(int one, int other, int what) throws NoSuchElementException, IllegalArgumentException {
        needSentence(one);
        needSentence(other);
        needNumber(what, 0, 1);
        int both = now.weightOf(now.bags[one] & now.bags[other]);
        int either = now.weightOf(now.bags[one] | now.bags[other]);
        int divisor = commonDivisor(either, both);
        if (both == 0 || divisor == 0) {
            return what == 0 ? 0 : 1;
        }
        return (what == 0 ? both : either) / divisor;
    }

    public long print() {
        long sum = 0;
        for (int s = 0; s < now.sentences; s++) {
            sum = sum * 31 + now.weightOf(now.bags[s]);
            sum = sum * 31 + now.gainOf(s, now.taken);
        }
        return sum;
    }

    public int status(int what) {
        return what >= 0 && what < REASONS ? refused[what] : NONE;
    }

    private void putNumber(int number) {
        for (int shift = 24; shift >= 0; shift -= 8) {
            if (tapeBytes < MOST_BYTES) {
                tape[tapeBytes] = (byte) (number >>> shift);
                tapeBytes++;
            }
        }
    }

    private void needSentence(int sentence) {
        needElement(sentence >= 0 && sentence < now.sentences);
    }

    private void needWord(int word) {
        needElement(word >= 0 && word < now.unlike);
    }

    private void needElement(boolean isThere) {
        if (!isThere) {
            refused[NO_SUCH]++;
            throw new NoSuchElementException("no such element");
        }
    }

    private void needNumber(int number, int least, int most) {
        if (number < least || number > most) {
            refused[BAD_NUMBER]++;
            throw new IllegalArgumentException("another number");
        }
    }

    private void needState(boolean isRight) {
        if (!isRight) {
            refused[BAD_STATE]++;
            throw new IllegalStateException("not as the extract stands");
        }
    }

    private static boolean isIn(int sentence, int set) {
        return (set >>> sentence & 1) != 0;
    }

    // By products, since a quotient would make unlike fractions alike.
    private static boolean isMoreFor(int gain, int cost, int otherGain, int otherCost) {
        return (long) gain * otherCost > (long) otherGain * cost;
    }

    private static int commonDivisor(int greater, int lesser) {
        int a = greater;
        int b = lesser;
        for (int round = 0; round < 100 && b != 0; round++) {
            int rest = a % b;
            a = b;
            b = rest;
        }
        return a;
    }

    /** All that acts change, so that a copy is enough to take an act back. */
    private static final class State {
        private static final int BITS_A_LETTER = 5;
        private static final int LETTER_MASK = 31;
        private static final int AHEAD_OF_A = 'a' - 1;

        private int sentences = 0;
        private int unlike = 0;
        private int budget = FIRST_BUDGET;
        private int taken = 0;
        private long leaning = 0;
        private final int[] lengths = new int[MOST_SENTENCES];
        private final int[] counts = new int[MOST_SENTENCES];
        private final int[] firsts = new int[MOST_SENTENCES];
        private final int[] chains = new int[MOST_SENTENCES];
        private final long[] bags = new long[MOST_SENTENCES];
        // A word's letters lie in one number, so that words are alike if their numbers are.
        private final long[] spellings = new long[MOST_UNLIKE];
        private final int[] weights = new int[MOST_UNLIKE];

        private void copyFrom(State other) {
            sentences = other.sentences;
            unlike = other.unlike;
            budget = other.budget;
            taken = other.taken;
            leaning = other.leaning;
            System.arraycopy(other.lengths, 0, lengths, 0, MOST_SENTENCES);
            System.arraycopy(other.counts, 0, counts, 0, MOST_SENTENCES);
            System.arraycopy(other.firsts, 0, firsts, 0, MOST_SENTENCES);
            System.arraycopy(other.chains, 0, chains, 0, MOST_SENTENCES);
            System.arraycopy(other.bags, 0, bags, 0, MOST_SENTENCES);
            System.arraycopy(other.spellings, 0, spellings, 0, MOST_UNLIKE);
            System.arraycopy(other.weights, 0, weights, 0, MOST_UNLIKE);
        }

        private void clear() {
            sentences = 0;
            unlike = 0;
            taken = 0;
            leaning = 0;
        }

        private static long spelledWith(long spelling, int i, int letter) {
            return spelling | (long) (letter - AHEAD_OF_A) << BITS_A_LETTER * i;
        }

        private int letterAt(int word, int i) {
            return codeAt(word, i) + AHEAD_OF_A;
        }

        private int codeAt(int word, int i) {
            return (int) (spellings[word] >>> BITS_A_LETTER * i) & LETTER_MASK;
        }

        private int lettersOf(int word) {
            int letters = 0;
            for (int i = 0; i < MOST_LETTERS; i++) {
                if (codeAt(word, i) != 0) {
                    letters++;
                }
            }
            return letters;
        }

        private int wordSpelled(long spelling) {
            for (int w = 0; w < unlike; w++) {
                if (spellings[w] == spelling) {
                    return w;
                }
            }
            return NONE;
        }

        private boolean leans(int word) {
            return (leaning >>> word & 1) != 0;
        }

        private int sentencesWith(int word) {
            int number = 0;
            for (int s = 0; s < sentences; s++) {
                number += (int) (bags[s] >>> word) & 1;
            }
            return number;
        }

        private int everySentence() {
            return (1 << sentences) - 1;
        }

        private void linkChains() {
            int chainAhead = 0;
            for (int s = 0; s < sentences; s++) {
                chains[s] = leans(firsts[s]) ? chainAhead | 1 << s : 1 << s;
                chainAhead = chains[s];
            }
        }

        private int allThatNeed(int sentence) {
            int set = 0;
            for (int s = 0; s < sentences; s++) {
                if (isIn(sentence, chains[s])) {
                    set |= 1 << s;
                }
            }
            return set;
        }

        private boolean isWhole(int set) {
            for (int s = 0; s < sentences; s++) {
                if (isIn(s, set) && (chains[s] & ~set) != 0) {
                    return false;
                }
            }
            return true;
        }

        private long bagOf(int set) {
            long bag = 0;
            for (int s = 0; s < sentences; s++) {
                if (isIn(s, set)) {
                    bag |= bags[s];
                }
            }
            return bag;
        }

        private int weightOf(long bag) {
            int weight = 0;
            for (int w = Long.numberOfTrailingZeros(bag); w < unlike && bag >>> w != 0; w++) {
                if ((bag >>> w & 1) != 0) {
                    weight += weights[w];
                }
            }
            return weight;
        }

        private int coveredBy(int set) {
            return weightOf(bagOf(set));
        }

        private int lengthOf(int set) {
            int length = 0;
            for (int s = 0; s < sentences; s++) {
                if (isIn(s, set)) {
                    length += lengths[s];
                }
            }
            return length;
        }

        private int gainOf(int sentence, int set) {
            return weightOf(bagOf(chains[sentence]) & ~bagOf(set));
        }

        private int costOf(int sentence, int set) {
            return lengthOf(chains[sentence] & ~set);
        }

        private boolean fitsInto(int sentence, int set) {
            return !isIn(sentence, set) && lengthOf(set | chains[sentence]) <= budget;
        }
    }

    /** The states ahead of the latest acts, in a ring. */
    private static final class Past {
        private final State[] states = new State[MOST_PAST];
        private int oldest = 0;
        private int kept = 0;

        private Past() {
            for (int i = 0; i < MOST_PAST; i++) {
                states[i] = new State();
            }
        }

        private void keep(State state) {
            if (kept == MOST_PAST) {
                oldest = (oldest + 1) % MOST_PAST;
                kept--;
            }
            states[(oldest + kept) % MOST_PAST].copyFrom(state);
            kept++;
        }

        private void giveBack(State state) {
            kept--;
            state.copyFrom(states[(oldest + kept) % MOST_PAST]);
        }
    }

    /** Reads a text into a draft, so that a fault leaves the text that stands as it is. */
    private static final class Reader {
        private final State draft = new State();
        private int fault = 0;
        private int place = NONE;
        private int wordsInOpen = 0;
        private int letters = 0;
        private int start = 0;
        private long spelling = 0;

        private int read(byte[] bytes, int n) {
            draft.clear();
            fault = 0;
            place = NONE;
            wordsInOpen = 0;
            letters = 0;
            for (int at = 0; at < n && at < bytes.length && fault == 0; at++) {
                if (bytes[at] >= 'a' && bytes[at] <= 'z') {
                    readLetter(bytes[at], at);
                } else {
                    endWord();
                    readSign(bytes[at], at);
                }
            }
            endWord();
            if (wordsInOpen > 0) {
                refuse(OUT_OF_PLACE, n);
            }
            return fault;
        }

        private void readLetter(int letter, int at) {
            if (letters == 0) {
                start = at;
                spelling = 0;
            }
            if (letters < MOST_LETTERS) {
                spelling = State.spelledWith(spelling, letters, letter);
            }
            letters++;
        }

        private void readSign(int sign, int at) {
            if (sign == '.' && wordsInOpen > 0) {
                draft.sentences++;
                wordsInOpen = 0;
            } else if (sign != ' ') {
                refuse(OUT_OF_PLACE, at);
            }
        }

        // A word's faults lie at its first byte, ahead of what a later byte could do wrong.
        private void endWord() {
            if (letters == 0) {
                return;
            }
            if (letters > MOST_LETTERS) {
                refuse(LONG_WORD, start);
            } else if (draft.sentences >= MOST_SENTENCES || wordsInOpen >= MOST_WORDS_IN_ONE) {
                refuse(TOO_MANY, start);
            } else {
                addWord();
            }
            letters = 0;
        }

        private void addWord() {
            int word = draft.wordSpelled(spelling);
            if (word == NONE) {
                if (draft.unlike >= MOST_UNLIKE) {
                    refuse(TOO_MANY, start);
                    return;
                }
                word = draft.unlike;
                draft.unlike++;
                draft.spellings[word] = spelling;
                draft.weights[word] = 0;
            }
            addToOpen(word);
        }

        private void addToOpen(int word) {
            int open = draft.sentences;
            if (wordsInOpen == 0) {
                draft.lengths[open] = 0;
                draft.bags[open] = 0;
                draft.firsts[open] = word;
            }
            if ((draft.bags[open] >>> word & 1) == 0) {
                draft.weights[word]++;
            }
            draft.bags[open] |= 1L << word;
            draft.lengths[open] += letters + 1;
            wordsInOpen++;
            draft.counts[open] = wordsInOpen;
        }

        private void refuse(int kind, int at) {
            if (fault == 0) {
                fault = kind;
                place = at;
            }
        }
    }

    /** GREEDY: chains taken one by one. */
    private static final class Climb {
        private final int[] steps = new int[MOST_SENTENCES];
        private int count = 0;
        private int set = 0;
        private int asked = 0;

        private void run(State state, int kind) {
            set = 0;
            count = 0;
            asked = 0;
            for (int round = 0; round <= state.sentences; round++) {
                asked += fitting(state);
                int pick = pickFor(state, set, kind != BY_GAIN);
                if (pick == NONE || count >= MOST_SENTENCES) {
                    break;
                }
                steps[count] = pick;
                count++;
                set |= state.chains[pick];
            }
            if (kind == OR_SINGLE) {
                compareWithSingle(state);
            }
        }

        private void compareWithSingle(State state) {
            int single = pickFor(state, 0, false);
            if (single != NONE && state.gainOf(single, 0) > state.coveredBy(set)) {
                set = state.chains[single];
                steps[0] = single;
                count = 1;
            }
        }

        private int fitting(State state) {
            int number = 0;
            for (int s = 0; s < state.sentences; s++) {
                if (state.fitsInto(s, set)) {
                    number++;
                }
            }
            return number;
        }

        private static int pickFor(State state, int extract, boolean forCost) {
            int pick = NONE;
            int mostGain = 0;
            int itsCost = 1;
            for (int s = 0; s < state.sentences; s++) {
                if (state.fitsInto(s, extract)) {
                    int gain = state.gainOf(s, extract);
                    int cost = forCost ? state.costOf(s, extract) : 1;
                    if (isMoreFor(gain, cost, mostGain, itsCost)) {
                        pick = s;
                        mostGain = gain;
                        itsCost = cost;
                    }
                }
            }
            return pick;
        }
    }

    /** LAZY: the queue that asks no more than it must. */
    private static final class Queue {
        // Between two that leave, each that waits is asked once at most: 16 times 17 looks are enough.
        private static final int MOST_LOOKS = 1000;

        private final int[] gains = new int[MOST_SENTENCES];
        private final int[] costs = new int[MOST_SENTENCES];
        private int waiting = 0;
        private int set = 0;
        private int asked = 0;

        private void run(State state) {
            set = 0;
            asked = 0;
            waiting = 0;
            for (int s = 0; s < state.sentences; s++) {
                ask(state, s);
                if (gains[s] > 0) {
                    waiting |= 1 << s;
                }
            }
            for (int look = 0; look < MOST_LOOKS && waiting != 0; look++) {
                int pick = foremost();
                if (pick == NONE) {
                    break;
                }
                lookAt(state, pick);
            }
        }

        private void ask(State state, int sentence) {
            gains[sentence] = state.gainOf(sentence, set);
            costs[sentence] = state.costOf(sentence, set);
            asked++;
        }

        private int foremost() {
            int pick = NONE;
            int mostGain = 0;
            int itsCost = 1;
            for (int s = 0; s < MOST_SENTENCES; s++) {
                if (isIn(s, waiting) && isMoreFor(gains[s], costs[s], mostGain, itsCost)) {
                    pick = s;
                    mostGain = gains[s];
                    itsCost = costs[s];
                }
            }
            return pick;
        }

        private void lookAt(State state, int sentence) {
            int bit = 1 << sentence;
            if (!state.fitsInto(sentence, set)) {
                waiting &= ~bit;
                return;
            }
            ask(state, sentence);
            if (gains[sentence] == 0) {
                waiting &= ~bit;
            } else if (foremost() == sentence) {
                set |= state.chains[sentence];
                waiting &= ~bit;
            }
        }
    }

    /** BOUND: no extract within the budget covers more. */
    private static final class Ceiling {
        private int least = 0;
        private int behind = 0;

        private void run(State state, Climb byRate) {
            int set = 0;
            least = ceilingBy(state, set);
            behind = 0;
            for (int k = 0; k < byRate.count && k < MOST_SENTENCES; k++) {
                set |= state.chains[byRate.steps[k]];
                int ceiling = ceilingBy(state, set);
                if (ceiling < least) {
                    least = ceiling;
                    behind = k + 1;
                }
            }
        }

        private static int ceilingBy(State state, int set) {
            long bag = state.bagOf(set);
            int ceiling = state.weightOf(bag);
            int left = state.budget;
            int rest = state.everySentence() & ~set;
            for (int round = 0; round < MOST_SENTENCES && rest != 0; round++) {
                int pick = densest(state, rest, bag);
                if (pick == NONE) {
                    break;
                }
                int weight = state.weightOf(state.bags[pick] & ~bag);
                int length = state.lengths[pick];
                if (length > 0 && length > left) {
                    return ceiling + weight * left / length;
                }
                ceiling += weight;
                left -= length;
                rest &= ~(1 << pick);
            }
            return ceiling;
        }

        private static int densest(State state, int rest, long bag) {
            int pick = NONE;
            int mostWeight = 0;
            int itsLength = 1;
            for (int s = 0; s < state.sentences; s++) {
                if (isIn(s, rest)) {
                    int weight = state.weightOf(state.bags[s] & ~bag);
                    if (isMoreFor(weight, state.lengths[s], mostWeight, itsLength)) {
                        pick = s;
                        mostWeight = weight;
                        itsLength = state.lengths[s];
                    }
                }
            }
            return pick;
        }
    }

    /** The best of all whole extracts in one of three orders, without those that can't be it. */
    private static final class Search {
        private static final int MOST_COVERED = 0;
        private static final int FEWEST_SENTENCES = 1;
        private static final int SHORTEST_LENGTH = 2;
        // Behind each word stands a byte that is no letter, so that no length is above a text's bytes.
        private static final int ANY_LENGTH = MOST_BYTES;

        private int order = MOST_COVERED;
        private int barred = NONE;
        private int mostLength = 0;
        private int leastCovered = 0;
        // The words of all sentences from one on that may be had.
        private final long[] bagsFrom = new long[MOST_SENTENCES + 1];
        private boolean found = false;
        private int set = 0;
        private int covered = 0;
        private int length = 0;

        private void findMost(State state, int budget, int without) {
            order = MOST_COVERED;
            barred = without;
            mostLength = budget;
            leastCovered = 0;
            visitAll(state);
        }

        private void findFewest(State state) {
            order = FEWEST_SENTENCES;
            barred = NONE;
            mostLength = ANY_LENGTH;
            leastCovered = state.coveredBy(state.everySentence());
            visitAll(state);
        }

        private void findShortest(State state, int least) {
            order = SHORTEST_LENGTH;
            barred = NONE;
            mostLength = ANY_LENGTH;
            leastCovered = least;
            visitAll(state);
        }

        private void visitAll(State state) {
            found = false;
            set = 0;
            covered = 0;
            length = 0;
            bagsFrom[state.sentences] = 0;
            for (int s = state.sentences - 1; s >= 0; s--) {
                bagsFrom[s] = bagsFrom[s + 1] | (s == barred ? 0 : state.bags[s]);
            }
            visit(state, 0, 0, 0, 0, 0, state.weightOf(bagsFrom[0]));
        }

        // What a branch can reach at most tells early that it is behind what was found.
        private void visit(State state, int at, int with, long bag, int covers, int itsLength, int reach) {
            if (itsLength > mostLength || reach < leastCovered || found && ranked(with, reach, itsLength) > 0) {
                return;
            }
            if (at >= state.sentences || isEnough(covers, reach)) {
                offer(with, covers, itsLength);
                return;
            }
            if (mayHave(state, at, with)) {
                int gain = state.weightOf(state.bags[at] & ~bag);
                visit(state, at + 1, with | 1 << at, bag | state.bags[at], covers + gain,
                        itsLength + state.lengths[at], reach);
            }
            int loss = state.weightOf(bagsFrom[at] & ~bagsFrom[at + 1] & ~bag);
            visit(state, at + 1, with, bag, covers, itsLength, reach - loss);
        }

        // More sentences would only make it longer then.
        private boolean isEnough(int covers, int reach) {
            return covers == reach || order != MOST_COVERED && covers >= leastCovered;
        }

        private boolean mayHave(State state, int sentence, int with) {
            return sentence != barred && (state.chains[sentence] & ~(with | 1 << sentence)) == 0;
        }

        private void offer(int with, int covers, int itsLength) {
            int rank = found ? ranked(with, covers, itsLength) : -1;
            if (rank < 0 || rank == 0 && with < set) {
                found = true;
                set = with;
                covered = covers;
                length = itsLength;
            }
        }

        /** Below 0: ahead of what was found; 0: as good, but for the number; above 0: behind. */
        private int ranked(int with, int covers, int itsLength) {
            int byCovered = Integer.compare(covered, covers);
            int byLength = Integer.compare(itsLength, length);
            if (order == MOST_COVERED) {
                return byCovered != 0 ? byCovered : byLength;
            }
            if (order == SHORTEST_LENGTH) {
                return byLength != 0 ? byLength : byCovered;
            }
            int byCount = Integer.compare(Integer.bitCount(with), Integer.bitCount(set));
            return byCount != 0 ? byCount : byLength;
        }
    }

    /** EXCHANGE: one sentence goes, one comes. */
    private static final class Swap {
        private int goes = NONE;
        private int comes = NONE;
        private int covered = 0;

        private void run(State state) {
            goes = NONE;
            comes = NONE;
            covered = state.coveredBy(state.taken);
            for (int out = 0; out < state.sentences; out++) {
                for (int in = 0; in < state.sentences; in++) {
                    if (isIn(out, state.taken) && !isIn(in, state.taken)) {
                        offer(state, out, in);
                    }
                }
            }
        }

        private void offer(State state, int out, int in) {
            int set = state.taken & ~(1 << out) | 1 << in;
            int covers = state.coveredBy(set);
            if (covers > covered && state.lengthOf(set) <= state.budget && state.isWhole(set)) {
                goes = out;
                comes = in;
                covered = covers;
            }
        }
    }
}
