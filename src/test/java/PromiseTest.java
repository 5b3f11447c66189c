import java.util.NoSuchElementException;

/** Each promise by itself: ordinary inputs, edges and wrong inputs, with answers worked out by hand. */
public final class PromiseTest {
    private static final Class<NoSuchElementException> NO_SUCH = NoSuchElementException.class;
    private static final Class<IllegalArgumentException> BAD_NUMBER = IllegalArgumentException.class;
    private static final Class<IllegalStateException> BAD_STATE = IllegalStateException.class;
    private static final int LOW = Integer.MIN_VALUE;
    private static final int HIGH = Integer.MAX_VALUE;

    // Weights: a 2, b 2, c 2, d 1, e 2, f 1, g 1; lengths: 6, 6, 2, 8.
    private static final String FOUR = "a b c. b c d. e. a e f g.";
    // With a at 2: sentence 0 brings most for its length, sentence 1 most of all (10, length 20).
    private static final String SINGLE = "a. b c d e f g h i j k.";

    private static final TestKit KIT = new TestKit("PromiseTest");

    public static void main(String[] args) {
        newObject();
        feed();
        textAndFault();
        textLimits();
        textResets();
        weigh();
        lean();
        budget();
        take();
        drop();
        undo();
        told();
        sentence();
        wordsAndLetters();
        greedy();
        greedyBySingle();
        lazy();
        bound();
        best();
        fewest();
        shortest();
        worth();
        exchange();
        next();
        likeness();
        print();
        status();
        KIT.finish();
    }

    private static void due(String what, long want, TestKit.Call call) {
        KIT.due(what, want, call);
    }

    private static void newObject() {
        CoverExtract x = new CoverExtract();
        for (int i = 0; i < 10; i++) {
            int what = i;
            due("1 new: told(" + what + ")", what == 2 ? 100 : 0, () -> x.told(what));
        }
        due("1 new: NONE", -1, () -> CoverExtract.NONE);
        due("1 new: fault()", -1, x::fault);
        due("1 new: undo()", -1, x::undo);
        due("1 new: print()", 0, x::print);
        due("1 new: bound(0)", -1, () -> x.bound(0));
        due("1 new: bound(3)", 1000, () -> x.bound(3));
        due("1 new: fewest(0)", 0, () -> x.fewest(0));
        due("1 new: next(9999)", -1, () -> x.next(9999));
        due("1 new: status(0)", 0, () -> x.status(0));
    }

    private static void feed() {
        CoverExtract x = new CoverExtract();
        due("2 feed", 20, () -> x.feed(0x61626364, 0x65666768, 0x692e2020, 0, 0));
        due("2 feed: text(10)", 1, () -> x.text(10));
        for (int i = 0; i < 9; i++) {
            int at = i;
            due("2 feed: letter " + i, 'a' + i, () -> x.letter(0, at));
        }
        for (int i = 1; i <= 30; i++) {
            int many = 20 * i;
            due("2 feed " + many, many, () -> x.feed(0x20202020, 0x20202020, 0x20202020, 0x20202020, 0x20202020));
        }
        due("2 feed too much", -1, () -> x.feed(0, 0, 0, 0, 0));
        due("2 feed too much: told(5)", 600, () -> x.told(5));
        due("2 feed too much: text(600)", 0, () -> x.text(600));
        due("2 feed afterwards", 20, () -> x.feed(-1, -1, -1, -1, -1));
        due("2 feed of no number counts as refused", 0, () -> x.status(0) + x.status(1) + x.status(2));
    }

    private static void readDue(String text, int want, int place) {
        CoverExtract x = new CoverExtract();
        due("3 text '" + text + "'", want, () -> TestKit.read(x, text));
        due("4 fault of '" + text + "'", place, x::fault);
    }

    private static void textAndFault() {
        readDue("", 0, -1);
        readDue("   ", 0, -1);
        readDue("a.", 1, -1);
        readDue("  a  b  .  c.d e .  ", 3, -1);
        readDue("a", -9, 1);
        readDue("a   ", -9, 4);
        readDue("a. b", -9, 4);
        readDue(".", -9, 0);
        readDue("a..", -9, 2);
        readDue("a. .", -9, 3);
        readDue("aA.", -9, 1);
        readDue("a`.", -9, 1);
        readDue("a{.", -9, 1);
        readDue("a,b.", -9, 1);
        readDue("a\u00e1.", -9, 1);
        readDue("a\tb.", -9, 1);
        readDue("abcdefghij.", 1, -1);
        readDue("a abcdefghijk.", -8, 2);
        readDue("abcdefghijk!", -8, 0);
        readDue("! abcdefghijk", -9, 0);
        readDue("a abcdefghijk", -8, 2);
        CoverExtract x = TestKit.with(FOUR);
        TestKit.feed(x, "a b");
        KIT.refused("3 text(21)", BAD_NUMBER, () -> x.text(21));
        KIT.refused("3 text(-1)", BAD_NUMBER, () -> x.text(-1));
        KIT.refused("3 text(LOW)", BAD_NUMBER, () -> x.text(LOW));
        KIT.refused("3 text(HIGH)", BAD_NUMBER, () -> x.text(HIGH));
        due("3 the tape stays", 20, () -> x.told(5));
        due("4 no fault by a refusal", -1, x::fault);
        due("3 text(3)", -9, () -> x.text(3));
        due("4 fault", 3, x::fault);
        KIT.refused("3 text(1) of nothing", BAD_NUMBER, () -> x.text(1));
        due("4 the fault stays by a refusal", 3, x::fault);
        due("3 text(0)", 0, () -> x.text(0));
        due("4 fault gone", -1, x::fault);
    }

    private static String unlike(int many) {
        StringBuilder text = new StringBuilder();
        for (int i = 0; i < many; i++) {
            text.append((char) ('a' + i / 24)).append((char) ('a' + i % 24)).append(i % 24 == 23 ? "." : " ");
        }
        return text.toString();
    }

    private static void textLimits() {
        readDue("a.".repeat(16), 16, -1);
        readDue("a.".repeat(16) + " ", 16, -1);
        readDue("a.".repeat(16) + "  b", -7, 34);
        readDue("a.".repeat(16) + " b!", -7, 33);
        readDue("a.".repeat(16) + " !", -9, 33);
        readDue("a.".repeat(16) + ".", -9, 32);
        readDue("a.".repeat(16) + "abcdefghijk.", -8, 32);
        readDue("a ".repeat(30) + ".", 1, -1);
        readDue("a ".repeat(30) + "a.", -7, 60);
        readDue("a ".repeat(30) + "b?", -7, 60);
        readDue("a ".repeat(30) + "?", -9, 60);
        readDue("a ".repeat(30) + ". " + "a ".repeat(30) + ".", 2, -1);
        readDue(unlike(48), 2, -1);
        readDue(unlike(48) + "aa bx.", 3, -1);
        readDue(unlike(48) + "aa cx.", -7, 147);
        readDue(unlike(48) + "aa a.", -7, 147);
        readDue(unlike(48) + "aax.", -7, 144);
        CoverExtract full = new CoverExtract();
        String long600 = ("abcdefghij ".repeat(27) + "ab.").repeat(2);
        due("3 text of 600", 2, () -> TestKit.read(full, long600));
        due("3 text of 600: length", 2 * (27 * 11 + 3), () -> full.told(4));
    }

    private static void textResets() {
        CoverExtract x = TestKit.with(FOUR);
        x.weigh(0, 9);
        x.lean(0, true);
        x.budget(50);
        x.take(1);
        due("3 fault leaves", -9, () -> TestKit.read(x, "z z"));
        due("3 fault empties the tape", 0, () -> x.told(5));
        due("3 fault leaves sentences", 4, () -> x.told(0));
        due("3 fault leaves weights", 9, () -> x.word(0, 0));
        due("3 fault leaves leaning", 1, () -> x.word(0, 3));
        due("3 fault leaves the extract", 2, () -> x.told(7));
        due("3 fault is no act", 5, () -> x.told(6));
        TestKit.feed(x, FOUR + "  and more on the tape");
        due("3 text again", 4, () -> x.text(FOUR.length()));
        due("3 text empties the tape", 0, () -> x.told(5));
        due("3 weights not told", 2, () -> x.word(0, 0));
        due("3 none leans", 0, () -> x.word(0, 3));
        due("3 nothing taken", 0, () -> x.told(7));
        due("3 budget stays", 50, () -> x.told(2));
        due("3 text is an act", 6, () -> x.told(6));
    }

    private static void weigh() {
        CoverExtract x = TestKit.with(FOUR);
        due("5 weigh(0, 1000)", 2, () -> x.weigh(0, 1000));
        due("5 weigh(0, 0)", 1000, () -> x.weigh(0, 0));
        due("5 weigh(0, 0) again", 0, () -> x.weigh(0, 0));
        due("5 weigh: word", 0, () -> x.word(0, 0));
        due("5 weigh: stands as before", 2, () -> x.word(0, 2));
        due("5 weigh: sentence", 4, () -> x.sentence(0, 3));
        due("5 weigh: acts", 4, () -> x.told(6));
        KIT.refused("5 weigh(7, 1)", NO_SUCH, () -> x.weigh(7, 1));
        KIT.refused("5 weigh(-1, 1)", NO_SUCH, () -> x.weigh(-1, 1));
        KIT.refused("5 weigh(HIGH, -1)", NO_SUCH, () -> x.weigh(HIGH, -1));
        KIT.refused("5 weigh(0, -1)", BAD_NUMBER, () -> x.weigh(0, -1));
        KIT.refused("5 weigh(0, 1001)", BAD_NUMBER, () -> x.weigh(0, 1001));
        due("5 weigh refused: no act", 4, () -> x.told(6));
    }

    private static void lean() {
        CoverExtract x = TestKit.with("a b. b c. b. a d. b.");
        due("6 lean", 1, () -> x.lean(1, true));
        due("6 lean again", 0, () -> x.lean(1, true));
        due("6 lean: an act each", 3, () -> x.told(6));
        due("6 chain of 0", 1, () -> x.sentence(0, 4));
        due("6 chain of 1", 3, () -> x.sentence(1, 4));
        due("6 chain of 2", 7, () -> x.sentence(2, 4));
        due("6 chain of 3", 8, () -> x.sentence(3, 4));
        due("6 chain of 4", 24, () -> x.sentence(4, 4));
        due("6 a leans, too", 1, () -> x.lean(0, true));
        due("6 chain of 0 ends it", 31, () -> x.sentence(4, 4));
        due("6 lean no more", 1, () -> x.lean(1, false));
        due("6 lean no more, again", 0, () -> x.lean(1, false));
        due("6 chain of 3 with a", 12, () -> x.sentence(3, 4));
        KIT.refused("6 lean(4)", NO_SUCH, () -> x.lean(4, true));
        KIT.refused("6 lean(-1)", NO_SUCH, () -> x.lean(-1, false));
        KIT.refused("6 lean(64)", NO_SUCH, () -> x.lean(64, false));
    }

    private static void budget() {
        CoverExtract x = new CoverExtract();
        due("7 budget(0)", 100, () -> x.budget(0));
        due("7 budget(9999)", 0, () -> x.budget(9999));
        due("7 budget(9999) again", 9999, () -> x.budget(9999));
        due("7 budget: acts", 3, () -> x.told(6));
        KIT.refused("7 budget(-1)", BAD_NUMBER, () -> x.budget(-1));
        KIT.refused("7 budget(10000)", BAD_NUMBER, () -> x.budget(10000));
        due("7 budget told", 9999, () -> x.told(2));
    }

    private static void take() {
        CoverExtract x = TestKit.with(FOUR);
        x.budget(8);
        due("8 take(0)", 6, () -> x.take(0));
        KIT.refused("8 take(0) again", BAD_STATE, () -> x.take(0));
        KIT.refused("8 take(1) is too long", BAD_STATE, () -> x.take(1));
        KIT.refused("8 take(4)", NO_SUCH, () -> x.take(4));
        KIT.refused("8 take(-1)", NO_SUCH, () -> x.take(-1));
        due("8 take(2) just fits", 2, () -> x.take(2));
        due("8 taken", 5, () -> x.told(7));
        x.budget(100);
        due("8 take(1)", 1, () -> x.take(1));
        due("8 take(3)", 2, () -> x.take(3));
        due("8 acts", 7, () -> x.told(6));
        CoverExtract y = TestKit.with(FOUR);
        y.lean(4, true);
        y.budget(7);
        KIT.refused("8 take(2): its chain is too long", BAD_STATE, () -> y.take(2));
        y.budget(8);
        due("8 take(2) with its chain", 7, () -> y.take(2));
        due("8 chain taken", 6, () -> y.told(7));
        CoverExtract z = TestKit.with(FOUR);
        z.take(2);
        z.lean(4, true);
        KIT.refused("8 take(2) is in, without its chain", BAD_STATE, () -> z.take(2));
        due("8 gain of the chain", 5, () -> z.sentence(2, 5));
        due("8 cost of the chain", 6, () -> z.sentence(2, 6));
        due("8 take(1)", 5, () -> z.take(1));
        due("8 gain of 0 by a sentence without weight", 0, () -> {
            z.weigh(0, 0);
            return z.take(0);
        });
    }

    private static void drop() {
        CoverExtract x = TestKit.with("a b. b c. b d. a e.");
        x.lean(1, true);
        due("9 take(2)", 7, () -> x.take(2));
        due("9 take(3)", 1, () -> x.take(3));
        due("9 drop(2): nothing leans on it", 1, () -> x.drop(2));
        due("9 dropped", 11, () -> x.told(7));
        due("9 take(2) again", 1, () -> x.take(2));
        due("9 drop(0) with all that lean", 5, () -> x.drop(0));
        due("9 dropped too", 8, () -> x.told(7));
        KIT.refused("9 drop(0)", BAD_STATE, () -> x.drop(0));
        KIT.refused("9 drop(4)", NO_SUCH, () -> x.drop(4));
        KIT.refused("9 drop(-1)", NO_SUCH, () -> x.drop(-1));
        KIT.refused("9 drop(32)", NO_SUCH, () -> x.drop(32));
        due("9 acts", 7, () -> x.told(6));
    }

    private static void undo() {
        CoverExtract x = TestKit.with(FOUR);
        x.take(0);
        x.drop(0);
        x.weigh(0, 5);
        x.lean(1, true);
        x.budget(7);
        TestKit.read(x, "z.");
        due("10 undo text", 6, x::undo);
        due("10 the text is back", 4, () -> x.told(0));
        due("10 its words, too", 'g', () -> x.letter(6, 0));
        due("10 told weights, too", 5, () -> x.word(0, 0));
        due("10 what leans, too", 1, () -> x.word(1, 3));
        due("10 the tape is not", 0, () -> x.told(5));
        due("10 undo budget", 5, x::undo);
        due("10 budget back", 100, () -> x.told(2));
        due("10 undo lean", 4, x::undo);
        due("10 lean back", 0, () -> x.word(1, 3));
        due("10 undo weigh", 3, x::undo);
        due("10 weight back", 2, () -> x.word(0, 0));
        due("10 undo drop", 2, x::undo);
        due("10 drop back", 1, () -> x.told(7));
        due("10 undo take", 1, x::undo);
        due("10 take back", 0, () -> x.told(7));
        due("10 undo the first text", 0, x::undo);
        due("10 no sentences", 0, () -> x.told(0));
        due("10 none left", -1, x::undo);
        for (int i = 1; i <= 11; i++) {
            x.budget(i);
        }
        due("10 of the latest 8", 8, () -> x.told(6));
        for (int i = 7; i >= 0; i--) {
            int left = i;
            due("10 undo, " + left + " left", left, x::undo);
            due("10 budget then", 3 + left, () -> x.told(2));
        }
        due("10 not a 9th", -1, x::undo);
        x.budget(77);
        due("10 a new act", 0, x::undo);
        due("10 back again", 3, () -> x.told(2));
        KIT.refused("10 refused", BAD_NUMBER, () -> x.budget(-5));
        due("10 a refusal is no act", -1, x::undo);
        due("10 undo leaves status", 1, () -> x.status(1));
    }

    private static void told() {
        CoverExtract x = TestKit.with(FOUR);
        x.take(0);
        x.take(2);
        TestKit.feed(x, "a");
        int[] want = {4, 7, 100, 11, 22, 20, 3, 5, 8, 8};
        for (int i = 0; i < 10; i++) {
            int what = i;
            due("11 told(" + what + ")", want[what], () -> x.told(what));
        }
        KIT.refused("11 told(-1)", BAD_NUMBER, () -> x.told(-1));
        KIT.refused("11 told(10)", BAD_NUMBER, () -> x.told(10));
    }

    private static void sentence() {
        CoverExtract x = TestKit.with("ab c ab. c d. d d e.");
        x.lean(1, true);
        x.budget(12);
        x.take(0);
        int[][] want = {{8, 3, 2, 3, 1, 0, 0, 0}, {4, 2, 2, 4, 3, 2, 4, 1}, {6, 3, 2, 3, 4, 3, 6, 0}};
        for (int s = 0; s < 3; s++) {
            for (int what = 0; what < 8; what++) {
                int at = s;
                int which = what;
                due("12 sentence(" + s + ", " + what + ")", want[s][what], () -> x.sentence(at, which));
            }
        }
        KIT.refused("12 sentence(3, 0)", NO_SUCH, () -> x.sentence(3, 0));
        KIT.refused("12 sentence(-1, 9)", NO_SUCH, () -> x.sentence(-1, 9));
        KIT.refused("12 sentence(0, 8)", BAD_NUMBER, () -> x.sentence(0, 8));
        KIT.refused("12 sentence(0, -1)", BAD_NUMBER, () -> x.sentence(0, -1));
    }

    private static void wordsAndLetters() {
        CoverExtract x = TestKit.with("ab c ab. c d. abcdefghij d e.");
        due("13 words(0)", 3, () -> x.words(0));
        due("13 words(1)", 6, () -> x.words(1));
        due("13 words(2)", 28, () -> x.words(2));
        KIT.refused("13 words(3)", NO_SUCH, () -> x.words(3));
        KIT.refused("13 words(-1)", NO_SUCH, () -> x.words(-1));
        CoverExtract most = TestKit.with(unlike(48));
        due("13 words beyond 32 bits", ((1L << 24) - 1) << 24, () -> most.words(1));
        x.weigh(1, 7);
        x.lean(1, true);
        int[][] want = {{1, 2, 1, 0}, {7, 1, 2, 1}, {2, 1, 2, 0}, {1, 10, 1, 0}};
        for (int w = 0; w < 4; w++) {
            for (int what = 0; what < 4; what++) {
                int at = w;
                int which = what;
                due("14 word(" + w + ", " + what + ")", want[w][what], () -> x.word(at, which));
            }
        }
        KIT.refused("14 word(5, 4)", NO_SUCH, () -> x.word(5, 4));
        KIT.refused("14 word(-1, 0)", NO_SUCH, () -> x.word(-1, 0));
        KIT.refused("14 word(4, 4)", BAD_NUMBER, () -> x.word(4, 4));
        KIT.refused("14 word(4, -1)", BAD_NUMBER, () -> x.word(4, -1));
        due("15 letter(0, 0)", 'a', () -> x.letter(0, 0));
        due("15 letter(0, 1)", 'b', () -> x.letter(0, 1));
        due("15 letter(3, 9)", 'j', () -> x.letter(3, 9));
        KIT.refused("15 letter(0, 2)", NO_SUCH, () -> x.letter(0, 2));
        KIT.refused("15 letter(3, 10)", NO_SUCH, () -> x.letter(3, 10));
        KIT.refused("15 letter(3, -1)", NO_SUCH, () -> x.letter(3, -1));
        KIT.refused("15 letter(5, 0)", NO_SUCH, () -> x.letter(5, 0));
        KIT.refused("15 letter(-1, 0)", NO_SUCH, () -> x.letter(-1, 0));
        due("15 letter: refusals", 7, () -> x.status(0) - 2);
        CoverExtract z = TestKit.with("zyxwvutsrq.");
        due("15 letter z", 'z', () -> z.letter(0, 0));
        due("15 letter q", 'q', () -> z.letter(0, 9));
    }

    private static void greedyDue(CoverExtract x, int kind, int[] want, int... steps) {
        for (int i = 0; i < 4; i++) {
            int what = i;
            due("16 greedy(" + kind + ", " + what + ")", want[what], () -> x.greedy(kind, what));
        }
        for (int i = 0; i < steps.length; i++) {
            int k = i;
            due("17 step(" + kind + ", " + k + ")", steps[k], () -> x.step(kind, k));
        }
        KIT.refused("17 step(" + kind + ", " + steps.length + ")", NO_SUCH, () -> x.step(kind, steps.length));
        KIT.refused("17 step(" + kind + ", -1)", NO_SUCH, () -> x.step(kind, -1));
    }

    private static void greedy() {
        CoverExtract x = TestKit.with(FOUR);
        greedyDue(x, 0, new int[] {11, 11, 20, 3}, 0, 3, 1);
        greedyDue(x, 1, new int[] {15, 11, 22, 4}, 0, 2, 3, 1);
        greedyDue(x, 2, new int[] {15, 11, 22, 4}, 0, 2, 3, 1);
        x.take(1);
        due("16 from nothing, whatever is taken", 11, () -> x.greedy(0, 0));
        due("16 asked, nothing stays changed", 2, () -> x.told(7));
        x.budget(0);
        greedyDue(x, 0, new int[] {0, 0, 0, 0});
        greedyDue(x, 2, new int[] {0, 0, 0, 0});
        KIT.refused("16 greedy(3, 0)", BAD_NUMBER, () -> x.greedy(3, 0));
        KIT.refused("16 greedy(-1, 0)", BAD_NUMBER, () -> x.greedy(-1, 0));
        KIT.refused("16 greedy(0, 4)", BAD_NUMBER, () -> x.greedy(0, 4));
        KIT.refused("16 greedy(0, -1)", BAD_NUMBER, () -> x.greedy(0, -1));
        KIT.refused("17 step(3, -1)", BAD_NUMBER, () -> x.step(3, -1));
        KIT.refused("17 step(-1, 99)", BAD_NUMBER, () -> x.step(-1, 99));
        CoverExtract y = TestKit.with("a. b c. b d e f.");
        y.lean(1, true);
        y.budget(6);
        greedyDue(y, 0, new int[] {3, 4, 6, 1}, 1);
        greedyDue(y, 1, new int[] {3, 4, 6, 1}, 1);
        y.budget(5);
        greedyDue(y, 1, new int[] {1, 1, 2, 1}, 0);
        y.budget(14);
        greedyDue(y, 1, new int[] {7, 7, 14, 2}, 1, 2);
        greedyDue(y, 0, new int[] {7, 7, 14, 1}, 2);
    }

    private static CoverExtract bySingle() {
        CoverExtract x = TestKit.with(SINGLE);
        x.weigh(0, 2);
        x.budget(20);
        return x;
    }

    private static void greedyBySingle() {
        CoverExtract x = bySingle();
        greedyDue(x, 1, new int[] {1, 2, 2, 1}, 0);
        greedyDue(x, 2, new int[] {2, 10, 20, 1}, 1);
        x.weigh(0, 10);
        greedyDue(x, 2, new int[] {1, 10, 2, 1}, 0);
        CoverExtract y = TestKit.with("a b. a b.");
        greedyDue(y, 0, new int[] {1, 4, 4, 1}, 0);
        CoverExtract z = TestKit.with("a. b. c.");
        z.weigh(0, 0);
        z.weigh(2, 0);
        greedyDue(z, 1, new int[] {2, 1, 2, 1}, 1);
    }

    private static void lazy() {
        CoverExtract x = TestKit.with(FOUR);
        due("18 lazy(0)", 15, () -> x.lazy(0));
        due("18 lazy(1)", 9, () -> x.lazy(1));
        due("18 lazy(2)", 10, () -> x.lazy(2));
        KIT.refused("18 lazy(3)", BAD_NUMBER, () -> x.lazy(3));
        KIT.refused("18 lazy(-1)", BAD_NUMBER, () -> x.lazy(-1));
        CoverExtract y = bySingle();
        due("18 one leaves without being asked", 3, () -> y.lazy(1));
        due("18 the set then", 1, () -> y.lazy(0));
        due("18 what greedy asks", 2, () -> y.lazy(2));
        CoverExtract z = TestKit.with("a. a. b.");
        z.weigh(1, 0);
        due("18 asked: 3 at first, 0 taken, 1 without gain", 5, () -> z.lazy(1));
        due("18 without gain not in", 1, () -> z.lazy(0));
        due("18 greedy asks those without gain, too", 5, () -> z.lazy(2));
    }

    private static void bound() {
        CoverExtract x = TestKit.with(FOUR);
        due("19 bound(0)", 0, () -> x.bound(0));
        due("19 bound(1)", 11, () -> x.bound(1));
        due("19 bound(2)", 2, () -> x.bound(2));
        due("19 bound(3)", 1000, () -> x.bound(3));
        x.budget(10);
        due("19 bound(1) cut", 9, () -> x.bound(1));
        due("19 bound(2) by nothing", 0, () -> x.bound(2));
        due("19 bound(3) cut", 888, () -> x.bound(3));
        x.budget(1);
        due("19 none fits", -1, () -> x.bound(0));
        due("19 a part of the first, cut", 1, () -> x.bound(1));
        due("19 share of it", 0, () -> x.bound(3));
        x.budget(0);
        due("19 bound 0", 0, () -> x.bound(1));
        due("19 share if bound is 0", 1000, () -> x.bound(3));
        KIT.refused("19 bound(4)", BAD_NUMBER, () -> x.bound(4));
        KIT.refused("19 bound(-1)", BAD_NUMBER, () -> x.bound(-1));
        CoverExtract y = bySingle();
        due("19 single", 1, () -> y.bound(0));
        due("19 bound with single", 11, () -> y.bound(1));
        due("19 share by greedy 2", 909, () -> y.bound(3));
        CoverExtract z = TestKit.with("a. b c.");
        z.lean(1, true);
        z.budget(4);
        due("19 single fits with its chain alone", 0, () -> z.bound(0));
        due("19 bound without chains: 1 and a half of 2", 2, () -> z.bound(1));
    }

    private static void bestDue(CoverExtract x, int budget, int set, int covered, int length) {
        due("20 best(" + budget + ", 0)", set, () -> x.best(budget, 0));
        due("20 best(" + budget + ", 1)", covered, () -> x.best(budget, 1));
        due("20 best(" + budget + ", 2)", length, () -> x.best(budget, 2));
    }

    private static void best() {
        CoverExtract x = TestKit.with(FOUR);
        bestDue(x, 9999, 10, 11, 14);
        bestDue(x, 14, 10, 11, 14);
        bestDue(x, 13, 5, 8, 8);
        bestDue(x, 1, 0, 0, 0);
        bestDue(x, 0, 0, 0, 0);
        due("20 the budget stays", 100, () -> x.told(2));
        KIT.refused("20 best(-1, 0)", BAD_NUMBER, () -> x.best(-1, 0));
        KIT.refused("20 best(10000, 0)", BAD_NUMBER, () -> x.best(10000, 0));
        KIT.refused("20 best(0, 3)", BAD_NUMBER, () -> x.best(0, 3));
        KIT.refused("20 best(0, -1)", BAD_NUMBER, () -> x.best(0, -1));
        CoverExtract shorter = TestKit.with("aaa. b.");
        bestDue(shorter, 4, 2, 1, 2);
        CoverExtract least = TestKit.with("a b. a b. c.");
        bestDue(least, 9999, 5, 5, 6);
        CoverExtract leaning = TestKit.with("a. b c. b d e f.");
        leaning.lean(1, true);
        bestDue(leaning, 13, 3, 4, 6);
        bestDue(leaning, 14, 7, 7, 14);
        CoverExtract nothing = TestKit.with("a. b.");
        nothing.weigh(0, 0);
        nothing.weigh(1, 0);
        bestDue(nothing, 9999, 0, 0, 0);
    }

    private static void fewestDue(CoverExtract x, int set, int many, int length) {
        due("21 fewest(0)", set, () -> x.fewest(0));
        due("21 fewest(1)", many, () -> x.fewest(1));
        due("21 fewest(2)", length, () -> x.fewest(2));
    }

    private static void fewest() {
        fewestDue(TestKit.with(FOUR), 10, 2, 14);
        fewestDue(TestKit.with("a b. c dddd. a b c dddd dddd."), 4, 1, 16);
        fewestDue(TestKit.with("a a. a. a."), 2, 1, 2);
        fewestDue(TestKit.with("a b. c. dddddddddd a b c. d e. dddddddddd."), 12, 2, 21);
        CoverExtract leaning = TestKit.with("a b. a c b.");
        leaning.lean(0, true);
        fewestDue(leaning, 3, 2, 10);
        leaning.budget(0);
        fewestDue(leaning, 3, 2, 10);
        CoverExtract nothing = TestKit.with("a.");
        nothing.weigh(0, 0);
        fewestDue(nothing, 0, 0, 0);
        KIT.refused("21 fewest(3)", BAD_NUMBER, () -> nothing.fewest(3));
        KIT.refused("21 fewest(-1)", BAD_NUMBER, () -> nothing.fewest(-1));
    }

    private static void shortestDue(CoverExtract x, int share, int set, int covered, int length) {
        due("22 shortest(" + share + ", 0)", set, () -> x.shortest(share, 0));
        due("22 shortest(" + share + ", 1)", covered, () -> x.shortest(share, 1));
        due("22 shortest(" + share + ", 2)", length, () -> x.shortest(share, 2));
    }

    private static void shortest() {
        CoverExtract x = TestKit.with("aaa. b c.");
        shortestDue(x, 0, 0, 0, 0);
        shortestDue(x, 1, 2, 2, 4);
        shortestDue(x, 66, 2, 2, 4);
        shortestDue(x, 67, 3, 3, 8);
        shortestDue(x, 100, 3, 3, 8);
        x.budget(0);
        shortestDue(x, 100, 3, 3, 8);
        shortestDue(TestKit.with("aa. b c d. ee."), 1, 1, 1, 3);
        shortestDue(TestKit.with(FOUR), 50, 1, 6, 6);
        CoverExtract leaning = TestKit.with("aaaaa. b c.");
        leaning.lean(1, true);
        shortestDue(leaning, 50, 3, 3, 10);
        KIT.refused("22 shortest(-1, 0)", BAD_NUMBER, () -> x.shortest(-1, 0));
        KIT.refused("22 shortest(101, 0)", BAD_NUMBER, () -> x.shortest(101, 0));
        KIT.refused("22 shortest(0, 3)", BAD_NUMBER, () -> x.shortest(0, 3));
        KIT.refused("22 shortest(0, -1)", BAD_NUMBER, () -> x.shortest(0, -1));
    }

    private static void worth() {
        CoverExtract x = TestKit.with(FOUR);
        x.budget(10);
        due("23 worth(0)", 1, () -> x.worth(0));
        due("23 worth(1)", 0, () -> x.worth(1));
        due("23 worth(2)", 2, () -> x.worth(2));
        due("23 worth(3)", 0, () -> x.worth(3));
        KIT.refused("23 worth(4)", NO_SUCH, () -> x.worth(4));
        KIT.refused("23 worth(-1)", NO_SUCH, () -> x.worth(-1));
        CoverExtract leaning = TestKit.with("a. b c. b d e f.");
        leaning.lean(1, true);
        due("23 worth of what all lean on", 7, () -> leaning.worth(0));
        due("23 worth of the last", 3, () -> leaning.worth(2));
    }

    private static void exchangeDue(CoverExtract x, int goes, int comes, int covered) {
        due("24 exchange(0)", goes, () -> x.exchange(0));
        due("24 exchange(1)", comes, () -> x.exchange(1));
        due("24 exchange(2)", covered, () -> x.exchange(2));
    }

    private static void exchange() {
        CoverExtract x = TestKit.with("a. b c. b d e. f.");
        exchangeDue(x, -1, -1, -1);
        x.take(0);
        exchangeDue(x, 0, 2, 4);
        x.budget(5);
        exchangeDue(x, 0, 1, 3);
        x.budget(6);
        x.lean(1, true);
        exchangeDue(x, -1, -1, -1);
        x.lean(1, false);
        x.budget(99);
        x.take(3);
        exchangeDue(x, 0, 2, 5);
        x.take(2);
        x.take(1);
        exchangeDue(x, -1, -1, -1);
        KIT.refused("24 exchange(3)", BAD_NUMBER, () -> x.exchange(3));
        KIT.refused("24 exchange(-1)", BAD_NUMBER, () -> x.exchange(-1));
        CoverExtract ties = TestKit.with("a. b. c d. e f.");
        ties.take(0);
        ties.take(1);
        exchangeDue(ties, 0, 2, 3);
        CoverExtract made = TestKit.with("a. b c. d.");
        made.take(1);
        made.take(2);
        made.lean(1, true);
        exchangeDue(made, -1, -1, -1);
        made.weigh(0, 9);
        exchangeDue(made, 2, 0, 11);
    }

    private static void next() {
        CoverExtract x = TestKit.with(FOUR);
        due("25 next(0)", 2, () -> x.next(0));
        due("25 next(1)", 2, () -> x.next(1));
        due("25 next(10)", 14, () -> x.next(10));
        due("25 next(13)", 14, () -> x.next(13));
        due("25 next(14)", -1, () -> x.next(14));
        due("25 next(9999)", -1, () -> x.next(9999));
        KIT.refused("25 next(-1)", BAD_NUMBER, () -> x.next(-1));
        KIT.refused("25 next(10000)", BAD_NUMBER, () -> x.next(10000));
        CoverExtract leaning = TestKit.with("a. b c. b d e f.");
        leaning.lean(1, true);
        due("25 next(2) with chains", 6, () -> leaning.next(2));
        due("25 next(6) with chains", 14, () -> leaning.next(6));
    }

    private static void likeness() {
        CoverExtract x = TestKit.with(FOUR);
        due("26 likeness(0, 1, 0)", 4, () -> x.likeness(0, 1, 0));
        due("26 likeness(1, 0, 1)", 7, () -> x.likeness(1, 0, 1));
        due("26 likeness(0, 3, 0)", 1, () -> x.likeness(0, 3, 0));
        due("26 likeness(0, 3, 1)", 5, () -> x.likeness(0, 3, 1));
        due("26 likeness(2, 3, 0)", 1, () -> x.likeness(2, 3, 0));
        due("26 likeness(2, 3, 1)", 3, () -> x.likeness(2, 3, 1));
        due("26 nothing alike", 0, () -> x.likeness(1, 2, 0));
        due("26 nothing alike by 1", 1, () -> x.likeness(1, 2, 1));
        due("26 itself", 1, () -> x.likeness(3, 3, 1));
        x.weigh(4, 0);
        due("26 without weight", 0, () -> x.likeness(2, 2, 0));
        due("26 without weight by 1", 1, () -> x.likeness(2, 2, 1));
        KIT.refused("26 likeness(4, 0, 9)", NO_SUCH, () -> x.likeness(4, 0, 9));
        KIT.refused("26 likeness(0, 4, 9)", NO_SUCH, () -> x.likeness(0, 4, 9));
        KIT.refused("26 likeness(-1, 0, 0)", NO_SUCH, () -> x.likeness(-1, 0, 0));
        KIT.refused("26 likeness(0, -1, 0)", NO_SUCH, () -> x.likeness(0, -1, 0));
        KIT.refused("26 likeness(0, 0, 2)", BAD_NUMBER, () -> x.likeness(0, 0, 2));
        KIT.refused("26 likeness(0, 0, -1)", BAD_NUMBER, () -> x.likeness(0, 0, -1));
    }

    private static void print() {
        CoverExtract x = TestKit.with("a b. b.");
        due("27 print", 92320, x::print);
        x.take(0);
        due("27 print with 0 taken", 89435, x::print);
        x.undo();
        x.lean(1, true);
        due("27 print with a chain", 92321, x::print);
    }

    private static void status() {
        CoverExtract x = TestKit.with("a.");
        KIT.refused("28 words(1)", NO_SUCH, () -> x.words(1));
        KIT.refused("28 words(2)", NO_SUCH, () -> x.words(2));
        KIT.refused("28 word(1, 9)", NO_SUCH, () -> x.word(1, 9));
        KIT.refused("28 told(-1)", BAD_NUMBER, () -> x.told(-1));
        KIT.refused("28 told(99)", BAD_NUMBER, () -> x.told(99));
        KIT.refused("28 drop(0)", BAD_STATE, () -> x.drop(0));
        due("28 status(0)", 3, () -> x.status(0));
        due("28 status(1)", 2, () -> x.status(1));
        due("28 status(2)", 1, () -> x.status(2));
        due("28 status(3)", -1, () -> x.status(3));
        due("28 status(-1)", -1, () -> x.status(-1));
        due("28 status(LOW)", -1, () -> x.status(LOW));
        due("28 status(HIGH)", -1, () -> x.status(HIGH));
        due("28 undo leaves it", 0, x::undo);
        due("28 status(0) then", 3, () -> x.status(0));
    }
}
