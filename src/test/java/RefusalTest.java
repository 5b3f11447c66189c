import java.util.ArrayList;
import java.util.List;
import java.util.NoSuchElementException;
import java.util.Set;
import java.util.TreeSet;
import java.util.regex.Matcher;
import java.util.regex.Pattern;

/**
 * Each refused call in each of several states: what it throws, what status counts for it, and, by a twin that
 * is spared the call, that it changes nothing else, not even what undo and the tape still hold.
 */
public final class RefusalTest {
    private static final TestKit KIT = new TestKit("RefusalTest");
    private static final Class<NoSuchElementException> NO_SUCH = NoSuchElementException.class;
    private static final Class<IllegalArgumentException> BAD_NUMBER = IllegalArgumentException.class;
    private static final Class<IllegalStateException> BAD_STATE = IllegalStateException.class;
    private static final List<Class<? extends RuntimeException>> REASONS = List.of(NO_SUCH, BAD_NUMBER, BAD_STATE);
    private static final int LOW = Integer.MIN_VALUE;
    private static final int HIGH = Integer.MAX_VALUE;

    private interface Use {
        long on(CoverExtract x);
    }

    private interface Maker {
        CoverExtract make();
    }

    private record Refusal(String method, String call, Class<? extends RuntimeException> thrown, Use use) { }

    // Which sentences are there is told by the state; which of them can't be taken or dropped is said by hand.
    private record Stand(String name, Maker maker, int[] unfit, int[] out) { }

    private static final Set<String> SEEN = new TreeSet<>();

    public static void main(String[] args) {
        List<Stand> stands = List.of(
            new Stand("a new object", CoverExtract::new, new int[0], new int[0]),
            new Stand("an empty text", RefusalTest::empty, new int[0], new int[0]),
            new Stand("a text, nothing taken", RefusalTest::ordinary, new int[] {3}, new int[] {0, 1, 2, 3}),
            new Stand("some taken", RefusalTest::someTaken, new int[] {0, 1, 2, 3}, new int[] {2, 3}),
            new Stand("a budget of 0", RefusalTest::noBudget, new int[] {0, 1, 2, 3}, new int[] {2, 3}),
            new Stand("behind undos", RefusalTest::behindUndos, new int[] {0}, new int[] {1, 2, 3}),
            new Stand("all full", RefusalTest::full, new int[] {0, 7, 15}, new int[0]));
        for (Stand stand : stands) {
            for (Refusal refusal : refusals(stand)) {
                check(stand, refusal);
            }
        }
        eachExceptionOfTheFace();
        firstTold();
        notRefused();
        askedNothingChanges();
        KIT.finish();
    }

    // ---- the states

    private static CoverExtract empty() {
        CoverExtract x = TestKit.with("   ");
        TestKit.feed(x, "a.");
        return x;
    }

    private static CoverExtract ordinary() {
        CoverExtract x = TestKit.with("a b c. b c d. e. a e f g.");
        x.weigh(0, 7);
        x.lean(1, true);
        x.budget(7);
        TestKit.read(x, "a!");
        TestKit.feed(x, "z. zz.");
        return x;
    }

    private static CoverExtract someTaken() {
        CoverExtract x = ordinary();
        x.budget(13);
        x.take(1);
        return x;
    }

    private static CoverExtract noBudget() {
        CoverExtract x = someTaken();
        x.budget(0);
        return x;
    }

    private static CoverExtract behindUndos() {
        CoverExtract x = TestKit.with("a b c. b c d. e. a e f g.");
        for (int i = 0; i < 9; i++) {
            x.budget(30 + i);
        }
        x.take(0);
        x.take(2);
        x.drop(0);
        x.undo();
        x.undo();
        return x;
    }

    private static CoverExtract full() {
        StringBuilder text = new StringBuilder();
        for (int i = 0; i < 48; i++) {
            text.append((char) ('a' + i / 24)).append((char) ('a' + i % 24)).append(i % 3 == 2 ? '.' : ' ');
        }
        CoverExtract x = TestKit.with(text.toString());
        x.budget(9999);
        x.lean(45, true);
        for (int s = 0; s < 16; s++) {
            if (s != 14) {
                x.take(s);
            }
        }
        TestKit.feed(x, "a. ".repeat(10) + " ".repeat(570));
        return x;
    }

    // ---- the refused calls

    private static final class Calls {
        private final List<Refusal> all = new ArrayList<>();

        void add(String method, String arguments, Class<? extends RuntimeException> thrown, Use use) {
            all.add(new Refusal(method, method + "(" + arguments + ")", thrown, use));
        }
    }

    private static int[] beside(int least, int most) {
        return new int[] {LOW, LOW + 1, least - 1, most + 1, most + 2, most + 64, HIGH - 1, HIGH};
    }

    private static List<Refusal> refusals(Stand stand) {
        CoverExtract x = stand.maker.make();
        int sentences = x.told(0);
        Calls calls = new Calls();
        noSuchSentence(calls, sentences);
        noSuchWord(calls, x.told(1));
        badNumber(calls, x.told(5));
        if (sentences > 0) {
            badNumberOfOne(calls, sentences - 1, x.told(1) - 1);
            noSuchLetter(calls, x.told(1) - 1, x.word(x.told(1) - 1, 1));
        }
        noSuchStep(calls, x);
        for (int s : stand.unfit) {
            calls.add("take", "" + s, BAD_STATE, y -> y.take(s));
        }
        for (int s : stand.out) {
            calls.add("drop", "" + s, BAD_STATE, y -> y.drop(s));
        }
        return calls.all;
    }

    private static void noSuchSentence(Calls calls, int sentences) {
        for (int s : beside(0, sentences - 1)) {
            calls.add("take", "" + s, NO_SUCH, x -> x.take(s));
            calls.add("drop", "" + s, NO_SUCH, x -> x.drop(s));
            calls.add("words", "" + s, NO_SUCH, x -> x.words(s));
            calls.add("worth", "" + s, NO_SUCH, x -> x.worth(s));
            calls.add("likeness", s + ", " + s + ", 0", NO_SUCH, x -> x.likeness(s, s, 0));
            for (int what : new int[] {0, 7, 8, -1}) {
                calls.add("sentence", s + ", " + what, NO_SUCH, x -> x.sentence(s, what));
            }
            if (sentences > 0) {
                for (int what : new int[] {0, 1, 2, -1}) {
                    calls.add("likeness", s + ", 0, " + what, NO_SUCH, x -> x.likeness(s, 0, what));
                    calls.add("likeness", "0, " + s + ", " + what, NO_SUCH, x -> x.likeness(0, s, what));
                }
            }
        }
    }

    private static void noSuchWord(Calls calls, int words) {
        for (int w : beside(0, words - 1)) {
            for (int weight : new int[] {0, 1000, -1, 1001}) {
                calls.add("weigh", w + ", " + weight, NO_SUCH, x -> x.weigh(w, weight));
            }
            calls.add("lean", w + ", true", NO_SUCH, x -> x.lean(w, true));
            calls.add("lean", w + ", false", NO_SUCH, x -> x.lean(w, false));
            for (int what : new int[] {0, 3, 4, -1}) {
                calls.add("word", w + ", " + what, NO_SUCH, x -> x.word(w, what));
            }
            for (int i : new int[] {0, -1, 10}) {
                calls.add("letter", w + ", " + i, NO_SUCH, x -> x.letter(w, i));
            }
        }
    }

    private static void badNumber(Calls calls, int tape) {
        for (int n : beside(0, tape)) {
            calls.add("text", "" + n, BAD_NUMBER, x -> x.text(n));
        }
        for (int n : beside(0, 9999)) {
            calls.add("budget", "" + n, BAD_NUMBER, x -> x.budget(n));
            calls.add("next", "" + n, BAD_NUMBER, x -> x.next(n));
            calls.add("best", n + ", 0", BAD_NUMBER, x -> x.best(n, 0));
            calls.add("best", n + ", 3", BAD_NUMBER, x -> x.best(n, 3));
        }
        for (int n : beside(0, 100)) {
            calls.add("shortest", n + ", 0", BAD_NUMBER, x -> x.shortest(n, 0));
            calls.add("shortest", n + ", 3", BAD_NUMBER, x -> x.shortest(n, 3));
        }
        for (int what : beside(0, 9)) {
            calls.add("told", "" + what, BAD_NUMBER, x -> x.told(what));
        }
        for (int what : beside(0, 3)) {
            calls.add("greedy", "0, " + what, BAD_NUMBER, x -> x.greedy(0, what));
            calls.add("greedy", "2, " + what, BAD_NUMBER, x -> x.greedy(2, what));
            calls.add("bound", "" + what, BAD_NUMBER, x -> x.bound(what));
        }
        for (int n : beside(0, 2)) {
            calls.add("greedy", n + ", 0", BAD_NUMBER, x -> x.greedy(n, 0));
            calls.add("greedy", n + ", 4", BAD_NUMBER, x -> x.greedy(n, 4));
            calls.add("step", n + ", 0", BAD_NUMBER, x -> x.step(n, 0));
            calls.add("step", n + ", -1", BAD_NUMBER, x -> x.step(n, -1));
            calls.add("lazy", "" + n, BAD_NUMBER, x -> x.lazy(n));
            calls.add("best", "0, " + n, BAD_NUMBER, x -> x.best(0, n));
            calls.add("best", "9999, " + n, BAD_NUMBER, x -> x.best(9999, n));
            calls.add("fewest", "" + n, BAD_NUMBER, x -> x.fewest(n));
            calls.add("shortest", "0, " + n, BAD_NUMBER, x -> x.shortest(0, n));
            calls.add("shortest", "100, " + n, BAD_NUMBER, x -> x.shortest(100, n));
            calls.add("exchange", "" + n, BAD_NUMBER, x -> x.exchange(n));
        }
    }

    private static void badNumberOfOne(Calls calls, int sentence, int word) {
        for (int weight : beside(0, 1000)) {
            calls.add("weigh", word + ", " + weight, BAD_NUMBER, x -> x.weigh(word, weight));
        }
        for (int what : beside(0, 7)) {
            calls.add("sentence", sentence + ", " + what, BAD_NUMBER, x -> x.sentence(sentence, what));
        }
        for (int what : beside(0, 3)) {
            calls.add("word", word + ", " + what, BAD_NUMBER, x -> x.word(word, what));
        }
        for (int what : beside(0, 1)) {
            calls.add("likeness", "0, " + sentence + ", " + what, BAD_NUMBER, x -> x.likeness(0, sentence, what));
        }
    }

    private static void noSuchLetter(Calls calls, int word, int letters) {
        for (int i : beside(0, letters - 1)) {
            calls.add("letter", word + ", " + i, NO_SUCH, x -> x.letter(word, i));
        }
    }

    private static void noSuchStep(Calls calls, CoverExtract made) {
        for (int n = 0; n < 3; n++) {
            int kind = n;
            for (int k : beside(0, made.greedy(kind, 3) - 1)) {
                calls.add("step", kind + ", " + k, NO_SUCH, x -> x.step(kind, k));
            }
        }
    }

    // ---- what is checked of each

    private static void check(Stand stand, Refusal refusal) {
        String name = stand.name + ": " + refusal.call;
        int reason = REASONS.indexOf(refusal.thrown);
        CoverExtract x = stand.maker.make();
        CoverExtract twin = stand.maker.make();
        SEEN.add(refusal.method + " " + refusal.thrown.getSimpleName());
        for (int times = 1; times <= 2; times++) {
            KIT.refused(name, refusal.thrown, () -> refusal.use.on(x));
            for (int r = 0; r < 3; r++) {
                int what = r;
                KIT.due(name + ", status(" + r + ")", r == reason ? times : 0, () -> x.status(what));
            }
        }
        KIT.compare(name + " changes nothing", allOf(twin), allOf(x));
        KIT.compare(name + " changes nothing that was", allPast(twin), allPast(x));
    }

    /** All that can be asked of where the object stands, and no refused call. */
    private static String allOf(CoverExtract x) {
        StringBuilder all = new StringBuilder();
        for (int what = 0; what < 10; what++) {
            all.append(x.told(what)).append(' ');
        }
        all.append(x.fault()).append(' ').append(x.print()).append('|');
        for (int s = 0; s < x.told(0); s++) {
            all.append(x.words(s)).append(' ').append(x.sentence(s, 4)).append(' ').append(x.sentence(s, 7)).append(' ');
        }
        all.append('|');
        for (int w = 0; w < x.told(1); w++) {
            all.append((char) x.letter(w, 0)).append(x.word(w, 0)).append(' ').append(x.word(w, 3)).append(' ');
        }
        all.append('|').append(x.greedy(0, 0)).append(' ').append(x.greedy(2, 0)).append(' ').append(x.lazy(1)).append(' ').append(x.lazy(2));
        all.append(' ').append(x.bound(1)).append(' ').append(x.best(50, 0)).append(' ').append(x.fewest(0));
        all.append(' ').append(x.shortest(70, 0)).append(' ').append(x.exchange(2)).append(' ').append(x.next(5));
        return all.toString();
    }

    /** What undo and the tape still hold. */
    private static String allPast(CoverExtract x) {
        StringBuilder all = new StringBuilder();
        int left = x.told(6);
        for (int i = 0; i <= left; i++) {
            all.append(x.undo()).append(' ').append(x.told(2)).append(' ').append(x.told(7)).append(' ');
            all.append(x.told(1)).append(' ').append(x.print()).append(' ').append(x.fewest(0)).append('|');
        }
        all.append(x.text(x.told(5))).append(' ').append(x.fault()).append(' ').append(x.print());
        return all.toString();
    }

    // ---- what the document says of all refusals

    private static void eachExceptionOfTheFace() {
        String document = TestKit.document();
        String face = document.substring(document.indexOf("```java"), document.indexOf("## Terms"));
        Set<String> wanted = new TreeSet<>();
        Matcher m = Pattern.compile("public (?:int|long) (\\w+)\\([^)]*\\) throws ([^;]*);").matcher(face);
        while (m.find()) {
            for (String exception : m.group(2).split(", ")) {
                wanted.add(m.group(1) + " " + exception);
            }
        }
        KIT.compare("each exception of the face was seen", wanted.toString(), SEEN.toString());
    }

    private static void firstTold() {
        KIT.says("Of several exceptions of one call the one told first is thrown");
        CoverExtract x = ordinary();
        KIT.refused("weigh", NO_SUCH, () -> x.weigh(7, 1001));
        KIT.refused("sentence", NO_SUCH, () -> x.sentence(4, 8));
        KIT.refused("word", NO_SUCH, () -> x.word(7, 4));
        KIT.refused("likeness of one", NO_SUCH, () -> x.likeness(4, 0, 2));
        KIT.refused("likeness to one", NO_SUCH, () -> x.likeness(0, 4, 2));
        KIT.refused("step", BAD_NUMBER, () -> x.step(3, 99));
        KIT.due("only the one thrown counts: 0", 5, () -> x.status(0));
        KIT.due("only the one thrown counts: 1", 1, () -> x.status(1));
        KIT.due("only the one thrown counts: 2", 0, () -> x.status(2));
    }

    private static void notRefused() {
        KIT.says("How many calls were refused");
        CoverExtract x = full();
        KIT.due("feed on a full tape", -1, () -> x.feed(0, 0, 0, 0, 0));
        KIT.due("no exchange", -1, () -> x.exchange(0));
        KIT.due("no next", -1, () -> x.next(9999));
        KIT.due("no such status", -1, () -> x.status(3));
        KIT.due("a text with a fault", -9, () -> x.text(1));
        CoverExtract y = new CoverExtract();
        KIT.due("no undo", -1, y::undo);
        KIT.due("no fault", -1, y::fault);
        KIT.due("no single", -1, () -> y.bound(0));
        for (int r = 0; r < 3; r++) {
            int what = r;
            KIT.due("none is refused: " + r, 0, () -> x.status(what) + y.status(what));
        }
    }

    private static void askedNothingChanges() {
        KIT.says("Asked, nothing stays changed.");
        List<Maker> makers = List.of(CoverExtract::new, RefusalTest::empty, RefusalTest::ordinary,
            RefusalTest::someTaken, RefusalTest::noBudget, RefusalTest::behindUndos);
        for (Maker maker : makers) {
            CoverExtract x = maker.make();
            CoverExtract twin = maker.make();
            askAll(x);
            KIT.compare("what stands", allOf(twin), allOf(x));
            KIT.compare("what was", allPast(twin), allPast(x));
        }
    }

    private static void askAll(CoverExtract x) {
        for (int what = 0; what < 4; what++) {
            for (int kind = 0; kind < 3; kind++) {
                x.greedy(kind, what);
            }
            x.bound(what);
            x.status(what);
        }
        for (int what = 0; what < 3; what++) {
            x.lazy(what);
            x.best(20, what);
            x.fewest(what);
            x.shortest(60, what);
            x.exchange(what);
        }
        for (int s = 0; s < x.told(0); s++) {
            x.worth(s);
            x.words(s);
            x.likeness(s, 0, 0);
            x.sentence(s, 5);
        }
        x.next(0);
        x.print();
        x.fault();
    }
}
