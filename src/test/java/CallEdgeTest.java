import java.math.BigInteger;
import java.util.NoSuchElementException;

/** The sections "Promise 1" to "Promise 28" and the acts: each sentence that names a boundary has a test. */
public final class CallEdgeTest {
    private static final TestKit KIT = new TestKit("CallEdgeTest");
    private static final Class<NoSuchElementException> NO_SUCH = NoSuchElementException.class;
    private static final Class<IllegalArgumentException> BAD_NUMBER = IllegalArgumentException.class;
    private static final int BLANKS = 0x20202020;

    // Weights: a 2, b 2, c 2, d 1, e 2, f 1, g 1; lengths: 6, 6, 2, 8.
    private static final String FOUR = "a b c. b c d. e. a e f g.";

    public static void main(String[] args) {
        newObject();
        feedOrder();
        feedFull();
        textOfTheTape();
        textAnew();
        textWithFault();
        fault();
        weigh();
        lean();
        budget();
        take();
        drop();
        actsOfEachKind();
        undoOfTheLatestEight();
        undoOfNone();
        told();
        sentence();
        words();
        word();
        letter();
        steps();
        greedyAndLazy();
        boundAndFewest();
        worth();
        budgetsAsked();
        exchangeNone();
        likeness();
        printSmall();
        printWraps();
        status();
        calls512();
        KIT.finish();
    }

    private static void due(String what, long want, TestKit.Call call) {
        KIT.due(what, want, call);
    }

    private static int feedBlanks(CoverExtract x) {
        return x.feed(BLANKS, BLANKS, BLANKS, BLANKS, BLANKS);
    }

    private static CoverExtract sixteen() {
        StringBuilder text = new StringBuilder();
        for (int i = 0; i < 48; i++) {
            text.append((char) ('a' + i / 24)).append((char) ('a' + i % 24)).append(i % 3 == 2 ? '.' : ' ');
        }
        return TestKit.with(text.toString());
    }

    private static void newObject() {
        KIT.says("`CoverExtract()`: No SENTENCES.");
        CoverExtract x = new CoverExtract();
        int[] want = {0, 0, 100, 0, 0, 0, 0, 0, 0, 0};
        for (int i = 0; i < want.length; i++) {
            int what = i;
            due("told(" + what + ")", want[what], () -> x.told(what));
        }
        KIT.refused("sentence 0", NO_SUCH, () -> x.sentence(0, 0));
        KIT.refused("word 0", NO_SUCH, () -> x.word(0, 0));
        due("fewest", 0, () -> x.fewest(1));
        due("best", 0, () -> x.best(9999, 0));
        due("print", 0, x::print);
        CoverExtract other = TestKit.with(FOUR);
        due("another object is another", 0, () -> x.told(0) + other.told(0) - 4);
    }

    private static void feedOrder() {
        KIT.says("Twenty bytes come on the TAPE, of each number the highest first: how many there are");
        CoverExtract x = new CoverExtract();
        due("twenty", 20, () -> x.feed(0x61626364, 0x65666768, 0x69206b6c, 0x6d6e6f70, 0x7172732e));
        due("all twenty", 1, () -> x.text(20));
        String want = "abcdefghi";
        for (int i = 0; i < 9; i++) {
            int at = i;
            due("letter " + i, want.charAt(i), () -> x.letter(0, at));
        }
        for (int i = 0; i < 9; i++) {
            int at = i;
            due("letter " + i + " of the other", 'k' + i, () -> x.letter(1, at));
        }
        CoverExtract high = new CoverExtract();
        due("bytes above 127", 20, () -> high.feed(-1, Integer.MIN_VALUE, Integer.MAX_VALUE, 0x80808080, 0));
        due("can't stand", -9, () -> high.text(20));
        due("at once", 0, high::fault);
        CoverExtract behind = new CoverExtract();
        behind.feed(0x612e20ff, 0, 0, 0, 0);
        due("the lowest last", -9, () -> behind.text(4));
        due("at 3", 3, behind::fault);
    }

    private static void feedFull() {
        KIT.says("NONE, doing nothing, if there would be more than 600");
        CoverExtract x = new CoverExtract();
        x.feed(0x612e2020, BLANKS, BLANKS, BLANKS, BLANKS);
        for (int many = 40; many <= 600; many += 20) {
            due("feed to " + many, many, () -> feedBlanks(x));
        }
        for (int i = 0; i < 2; i++) {
            due("too much", -1, () -> x.feed(-1, -1, -1, -1, -1));
            due("the tape stays", 600, () -> x.told(5));
        }
        due("it is no refusal", 0, () -> x.status(0) + x.status(1) + x.status(2));
        due("nor an act", 0, () -> x.told(6));
        due("its bytes stay, too", 1, () -> x.text(600));
        due("empty then", 20, () -> feedBlanks(x));
    }

    private static void textOfTheTape() {
        KIT.says("The first n bytes of the TAPE (empty then) are the TEXT");
        CoverExtract x = new CoverExtract();
        due("none of an empty one", 0, () -> x.text(0));
        TestKit.feed(x, "a. b. c.");
        due("a part", 2, () -> x.text(5));
        due("the rest is gone", 0, () -> x.told(5));
        KIT.refused("so it can't be read", BAD_NUMBER, () -> x.text(1));
        TestKit.feed(x, "a. b. c.            ");
        due("all", 3, () -> x.text(20));
        TestKit.feed(x, "a.");
        due("none of twenty", 0, () -> x.text(0));
        due("no sentences then", 0, () -> x.told(0));
        due("no words", 0, () -> x.told(1));
        due("the tape is empty", 0, () -> x.told(5));
        KIT.says("IllegalArgumentException: n is not 0 to the TAPE's bytes (it stays)");
        KIT.refused("1 of none", BAD_NUMBER, () -> x.text(1));
        TestKit.feed(x, "a. b.");
        KIT.refused("-1", BAD_NUMBER, () -> x.text(-1));
        KIT.refused("21 of 20", BAD_NUMBER, () -> x.text(21));
        KIT.refused("600 of 20", BAD_NUMBER, () -> x.text(600));
        KIT.refused("least", BAD_NUMBER, () -> x.text(Integer.MIN_VALUE));
        KIT.refused("most", BAD_NUMBER, () -> x.text(Integer.MAX_VALUE));
        due("it stays", 20, () -> x.told(5));
        due("its bytes stay, too", 2, () -> x.text(5));
        CoverExtract full = new CoverExtract();
        TestKit.feed(full, " ".repeat(600));
        KIT.refused("601 of 600", BAD_NUMBER, () -> full.text(601));
        due("600 of 600", 0, () -> full.text(600));
    }

    private static CoverExtract touched() {
        CoverExtract x = TestKit.with(FOUR);
        x.weigh(0, 9);
        x.lean(1, true);
        x.budget(50);
        x.take(1);
        return x;
    }

    private static void textAnew() {
        KIT.says("(WEIGHTS not told, none LEANS, nothing taken by hand; BUDGET stays): how many SENTENCES");
        CoverExtract x = touched();
        due("the same text again", 4, () -> TestKit.read(x, FOUR));
        due("weight as it stands", 2, () -> x.word(0, 0));
        due("none leans", 0, () -> x.word(1, 3));
        due("no chains", 2, () -> x.sentence(1, 4));
        due("nothing taken", 0, () -> x.told(7));
        due("budget stays", 50, () -> x.told(2));
        CoverExtract empty = touched();
        due("an empty text", 0, () -> TestKit.read(empty, ""));
        due("nothing taken of nothing", 0, () -> empty.told(7));
        due("budget stays with it", 50, () -> empty.told(2));
    }

    private static void textWithFault() {
        KIT.says("or the FAULT less 10 (all but the TAPE stays)");
        String[] bad = {"a", "abcdefghijk.", "a.".repeat(17)};
        for (int kind = 1; kind <= 3; kind++) {
            CoverExtract x = touched();
            CoverExtract twin = touched();
            String text = bad[kind - 1];
            due("fault " + kind, kind - 10, () -> TestKit.read(x, text));
            due("the tape is empty", 0, () -> x.told(5));
            for (int i = 0; i < 10; i++) {
                int what = i;
                due("told(" + what + ")", twin.told(what), () -> x.told(what));
            }
            due("weight told", 9, () -> x.word(0, 0));
            due("it leans", 1, () -> x.word(1, 3));
            due("its letters", 'g', () -> x.letter(6, 0));
            due("print", twin.print(), x::print);
            due("no refusal", 0, () -> x.status(0) + x.status(1) + x.status(2));
            due("undo takes take() back", 4, x::undo);
            due("nothing is taken then", 0, () -> x.told(7));
        }
    }

    private static void fault() {
        KIT.says("The place of the FAULT of the latest text() that threw nothing; NONE without one, and ahead of any");
        CoverExtract x = new CoverExtract();
        due("ahead of any", -1, x::fault);
        KIT.refused("text(1)", BAD_NUMBER, () -> x.text(1));
        due("ahead of any that threw nothing", -1, x::fault);
        TestKit.read(x, "!");
        due("at the first byte", 0, x::fault);
        KIT.refused("text(1) again", BAD_NUMBER, () -> x.text(1));
        due("by one that threw it stays", 0, x::fault);
        x.budget(7);
        x.undo();
        due("by others, too", 0, x::fault);
        TestKit.read(x, "a");
        due("at the length", 1, x::fault);
        TestKit.read(x, " ".repeat(599) + "a");
        due("at the length of a full one", 600, x::fault);
        TestKit.read(x, "a.");
        due("without one", -1, x::fault);
        TestKit.read(x, "a!");
        TestKit.read(x, "");
        due("without one in an empty text", -1, x::fault);
    }

    private static void weigh() {
        KIT.says("WEIGHT of a WORD: what it was.");
        CoverExtract x = sixteen();
        due("the last word", 1, () -> x.weigh(47, 1000));
        due("as it is", 1000, () -> x.weigh(47, 1000));
        due("to 0", 1000, () -> x.weigh(47, 0));
        due("from 0", 0, () -> x.weigh(47, 1));
        KIT.says("NoSuchElementException: no such WORD, SENTENCE (so below).");
        KIT.refused("word 48 of 48", NO_SUCH, () -> x.weigh(48, 1));
        KIT.refused("word -1", NO_SUCH, () -> x.weigh(-1, 1));
        KIT.refused("word 0 of none", NO_SUCH, () -> new CoverExtract().weigh(0, 1));
        KIT.refused("sentence 16 of 16", NO_SUCH, () -> x.take(16));
        KIT.refused("sentence 0 of none", NO_SUCH, () -> new CoverExtract().take(0));
        KIT.says("IllegalArgumentException: another number (so below).");
        KIT.refused("-1", BAD_NUMBER, () -> x.weigh(0, -1));
        KIT.refused("1,001", BAD_NUMBER, () -> x.weigh(0, 1001));
        KIT.refused("least", BAD_NUMBER, () -> x.weigh(0, Integer.MIN_VALUE));
        KIT.refused("most", BAD_NUMBER, () -> x.weigh(0, Integer.MAX_VALUE));
    }

    private static void lean() {
        KIT.says("A WORD LEANS, or not: 1 that is another, 0 it was so.");
        CoverExtract x = sixteen();
        due("not, as it was", 0, () -> x.lean(47, false));
        due("leans", 1, () -> x.lean(47, true));
        due("leans, as it did", 0, () -> x.lean(47, true));
        due("not", 1, () -> x.lean(47, false));
        KIT.refused("word 48 of 48", NO_SUCH, () -> x.lean(48, true));
        KIT.refused("word 63", NO_SUCH, () -> x.lean(63, true));
        KIT.refused("word 64, whose bit would be word 0's", NO_SUCH, () -> x.lean(64, true));
        due("word 0 does not lean", 0, () -> x.word(0, 3));
    }

    private static void budget() {
        KIT.says("BUDGET: what it was.");
        CoverExtract x = new CoverExtract();
        due("from the first", 100, () -> x.budget(9999));
        due("from the greatest", 9999, () -> x.budget(0));
        due("from the least", 0, () -> x.budget(0));
        KIT.refused("-1", BAD_NUMBER, () -> x.budget(-1));
        KIT.refused("10,000", BAD_NUMBER, () -> x.budget(10000));
        due("as it was", 0, () -> x.told(2));
    }

    private static void take() {
        KIT.says("The CHAIN of a SENTENCE is taken by hand: GAIN. IllegalStateException: it does not FIT.");
        CoverExtract x = TestKit.with(FOUR);
        x.budget(8);
        due("just fits", 6, () -> x.take(3));
        KIT.refused("is in", IllegalStateException.class, () -> x.take(3));
        KIT.refused("is too long", IllegalStateException.class, () -> x.take(2));
        x.budget(9);
        KIT.refused("is too long by one", IllegalStateException.class, () -> x.take(2));
        x.budget(10);
        due("gain of 0 is fine", 0, () -> x.take(2));
        due("taken", 12, () -> x.told(7));
        CoverExtract chained = TestKit.with("a.".repeat(16));
        chained.lean(0, true);
        chained.budget(31);
        KIT.refused("the chain of all is too long", IllegalStateException.class, () -> chained.take(15));
        chained.budget(32);
        due("the chain of all", 16, () -> chained.take(15));
        due("all are in", 65535, () -> chained.told(7));
        KIT.refused("so is the first", IllegalStateException.class, () -> chained.take(0));
    }

    private static void drop() {
        KIT.says("A SENTENCE that was taken by hand is dropped, and all whose CHAIN has it: by how much less is COVERED");
        CoverExtract x = TestKit.with("a.".repeat(15) + "b.");
        x.lean(0, true);
        x.take(14);
        x.take(15);
        due("what others cover, too", 0, () -> x.drop(14));
        due("the one behind stays", 0xbfff, () -> x.told(7));
        due("the first with all that lean on it", 15, () -> x.drop(0));
        due("one is left", 0x8000, () -> x.told(7));
        due("the last", 1, () -> x.drop(15));
        due("nothing is left", 0, () -> x.told(7));
        KIT.says("IllegalStateException: it is not in the EXTRACT.");
        KIT.refused("of nothing", IllegalStateException.class, () -> x.drop(0));
        x.take(3);
        KIT.refused("behind a chain", IllegalStateException.class, () -> x.drop(4));
        due("in a chain", 0, () -> x.drop(3));
        due("the rest of the chain", 7, () -> x.told(7));
    }

    private static void actsOfEachKind() {
        KIT.says("ACTS: text() without a FAULT, weigh(), lean(), budget(), take(), drop()");
        CoverExtract x = new CoverExtract();
        due("text", 1, () -> TestKit.read(x, FOUR) * 0 + x.told(6));
        due("weigh", 2, () -> x.weigh(0, 5) * 0 + x.told(6));
        due("lean", 3, () -> x.lean(1, true) * 0 + x.told(6));
        due("budget", 4, () -> x.budget(30) * 0 + x.told(6));
        due("take", 5, () -> x.take(1) * 0 + x.told(6));
        due("drop", 6, () -> x.drop(1) * 0 + x.told(6));
        due("text with a fault is none", 6, () -> TestKit.read(x, "a") * 0 + x.told(6));
        due("feed is none", 6, () -> feedBlanks(x) * 0 + x.told(6));
        due("weigh as it is", 7, () -> x.weigh(0, 5) * 0 + x.told(6));
        due("lean as it is", 8, () -> x.lean(1, true) * 0 + x.told(6));
        due("no more than 8", 8, () -> x.budget(30) * 0 + x.told(6));
        due("undo of a budget as it was", 7, x::undo);
        due("undo of a lean as it was", 6, x::undo);
        due("undo of a weigh as it was", 5, x::undo);
        due("undo drop", 4, x::undo);
        due("taken again", 3, () -> x.told(7));
        due("undo take", 3, x::undo);
        due("not taken", 0, () -> x.told(7));
        due("undo budget", 2, x::undo);
        due("budget", 100, () -> x.told(2));
        due("undo lean", 1, x::undo);
        due("leans no more", 0, () -> x.word(1, 3));
        due("undo weigh", 0, x::undo);
        due("weight", 2, () -> x.word(0, 0));
        due("text is the 9th ahead", -1, x::undo);
        due("it stays", 4, () -> x.told(0));
    }

    private static void undoOfTheLatestEight() {
        KIT.says("undo() takes the latest one back that is not yet, of the latest 8");
        for (int acts = 1; acts <= 20; acts++) {
            CoverExtract x = new CoverExtract();
            for (int i = 1; i <= acts; i++) {
                x.budget(100 + i);
            }
            int can = Math.min(acts, 8);
            due(acts + " acts", can, () -> x.told(6));
            for (int left = can - 1; left >= 0; left--) {
                due(acts + " acts: undo", left, x::undo);
                due(acts + " acts: budget", 100 + acts - can + left, () -> x.told(2));
            }
            due(acts + " acts: none left", -1, x::undo);
            due(acts + " acts: it stays", 100 + acts - can, () -> x.told(2));
        }
        CoverExtract x = new CoverExtract();
        for (int i = 1; i <= 9; i++) {
            x.budget(i);
        }
        x.undo();
        x.undo();
        x.budget(50);
        due("an act behind two undos", 7, () -> x.told(6));
        due("undo it", 6, x::undo);
        due("then the one ahead of the undos", 5, x::undo);
        due("its budget", 6, () -> x.told(2));
        KIT.says("all taken back");
        CoverExtract texts = TestKit.with(FOUR);
        texts.take(3);
        TestKit.read(texts, "");
        TestKit.read(texts, "zz yy. xx.");
        due("undo a text", 3, texts::undo);
        due("the empty one", 0, () -> texts.told(0));
        due("undo the empty text", 2, texts::undo);
        due("the first one", 4, () -> texts.told(0));
        due("with its words", 7, () -> texts.told(1));
        due("with what was taken", 8, () -> texts.told(7));
        due("without a tape", 0, () -> texts.told(5));
    }

    private static void undoOfNone() {
        KIT.says("How many ACTS still can be taken back behind it; NONE: none could.");
        CoverExtract x = new CoverExtract();
        due("of a new object", -1, x::undo);
        due("again", -1, x::undo);
        due("no refusal", 0, () -> x.status(0) + x.status(1) + x.status(2));
        due("nothing is changed", 100, () -> x.told(2));
        x.budget(5);
        due("the only one", 0, x::undo);
        due("none could", -1, x::undo);
        TestKit.feed(x, "a.");
        due("the tape can't", -1, x::undo);
        due("it stays", 20, () -> x.told(5));
    }

    private static void told() {
        KIT.says("0 SENTENCES, 1 unlike WORDS, 2 BUDGET, 3 what all COVER, 4 LENGTH of all, 5 bytes of the TAPE");
        CoverExtract x = sixteen();
        x.take(15);
        TestKit.feed(x, " ".repeat(600));
        x.budget(9999);
        int[] want = {16, 48, 9999, 48, 144, 600, 3, 32768, 3, 9};
        for (int i = 0; i < want.length; i++) {
            int what = i;
            due("told(" + what + ")", want[what], () -> x.told(what));
        }
        KIT.refused("told(10)", BAD_NUMBER, () -> x.told(10));
        KIT.refused("told(-1)", BAD_NUMBER, () -> x.told(-1));
    }

    private static void sentence() {
        KIT.says("Of a SENTENCE: 0 LENGTH, 1 WORDS, 2 unlike ones, 3 WEIGHT of its unlike ones together, 4 its CHAIN");
        CoverExtract x = TestKit.with("a.".repeat(15) + "b a b.");
        x.lean(1, true);
        x.take(0);
        int[] want = {6, 3, 2, 17, 49152, 1, 8, 1};
        for (int i = 0; i < want.length; i++) {
            int what = i;
            due("sentence(15, " + what + ")", want[what], () -> x.sentence(15, what));
        }
        KIT.refused("sentence(16, 0)", NO_SUCH, () -> x.sentence(16, 0));
        KIT.refused("sentence(15, 8)", BAD_NUMBER, () -> x.sentence(15, 8));
        KIT.refused("sentence(15, -1)", BAD_NUMBER, () -> x.sentence(15, -1));
    }

    private static void words() {
        KIT.says("Unlike WORDS of a SENTENCE, as bits.");
        CoverExtract x = sixteen();
        due("the first", 7, () -> x.words(0));
        due("across bit 31", 7L << 30, () -> x.words(10));
        due("the last", 7L << 45, () -> x.words(15));
        KIT.refused("one behind", NO_SUCH, () -> x.words(16));
        KIT.refused("one ahead", NO_SUCH, () -> x.words(-1));
        CoverExtract one = TestKit.with("a a a.");
        due("as often as it may stand", 1, () -> one.words(0));
    }

    private static void word() {
        KIT.says("Of a WORD: 0 WEIGHT, 1 letters, 2 SENTENCES in which it stands, 3 1 it LEANS, 0 not.");
        CoverExtract x = TestKit.with("a abcdefghij a." + "a.".repeat(15));
        x.weigh(0, 0);
        x.lean(1, true);
        int[][] want = {{0, 1, 16, 0}, {1, 10, 1, 1}};
        for (int w = 0; w < 2; w++) {
            for (int i = 0; i < 4; i++) {
                int at = w;
                int what = i;
                due("word(" + at + ", " + what + ")", want[at][what], () -> x.word(at, what));
            }
        }
        KIT.refused("word(2, 0)", NO_SUCH, () -> x.word(2, 0));
        KIT.refused("word(1, 4)", BAD_NUMBER, () -> x.word(1, 4));
        KIT.refused("word(1, -1)", BAD_NUMBER, () -> x.word(1, -1));
    }

    private static void letter() {
        KIT.says("Letter i of a WORD. NoSuchElementException: also no such letter.");
        CoverExtract x = TestKit.with("a zyxwvutsrq.");
        due("the only one", 'a', () -> x.letter(0, 0));
        KIT.refused("one behind it", NO_SUCH, () -> x.letter(0, 1));
        KIT.refused("one ahead of it", NO_SUCH, () -> x.letter(0, -1));
        for (int i = 0; i < 10; i++) {
            int at = i;
            due("letter " + i, 'z' - i, () -> x.letter(1, at));
        }
        KIT.refused("an 11th", NO_SUCH, () -> x.letter(1, 10));
        KIT.refused("letter 64", NO_SUCH, () -> x.letter(1, 64));
        KIT.refused("of no word", NO_SUCH, () -> x.letter(2, 0));
        due("none of them is another number", 0, () -> x.status(1));
        due("each counts", 5, () -> x.status(0));
    }

    private static void steps() {
        KIT.says("The SENTENCE whose CHAIN is taken by its k-th step");
        CoverExtract four = TestKit.with(FOUR);
        int[][] want = {{0, 3, 1}, {0, 2, 3, 1}, {0, 2, 3, 1}};
        for (int i = 3; i >= 0; i--) {
            for (int by = 0; by < 3; by++) {
                int kind = by;
                int k = i;
                if (k < want[kind].length) {
                    due("step(" + kind + ", " + k + ")", want[kind][k], () -> four.step(kind, k));
                } else {
                    KIT.refused("step(" + kind + ", " + k + ")", NO_SUCH, () -> four.step(kind, k));
                }
            }
        }
        KIT.says("NoSuchElementException: not so many (behind IllegalArgumentException: no such KIND)");
        CoverExtract x = sixteen();
        x.budget(9999);
        for (int kind = 0; kind < 3; kind++) {
            int by = kind;
            due("sixteen steps by " + kind, 16, () -> x.greedy(by, 3));
            due("the first by " + kind, 0, () -> x.step(by, 0));
            due("the last by " + kind, 15, () -> x.step(by, 15));
            KIT.refused("a 17th by " + kind, NO_SUCH, () -> x.step(by, 16));
            KIT.refused("one ahead by " + kind, NO_SUCH, () -> x.step(by, -1));
        }
        KIT.refused("no such kind, and step", BAD_NUMBER, () -> x.step(3, 0));
        KIT.refused("no such kind, nor step", BAD_NUMBER, () -> x.step(-1, 99));
        KIT.refused("no step of nothing", NO_SUCH, () -> new CoverExtract().step(0, 0));
    }

    private static void greedyAndLazy() {
        KIT.says("GREEDY by a KIND (0 to 2): 0 the set, 1 what it COVERS, 2 LENGTH, 3 how many steps");
        CoverExtract x = TestKit.with(FOUR);
        int[][] want = {{11, 11, 20, 3}, {15, 11, 22, 4}, {15, 11, 22, 4}};
        for (int kind = 0; kind < 3; kind++) {
            for (int i = 0; i < 4; i++) {
                int by = kind;
                int what = i;
                due("greedy(" + by + ", " + what + ")", want[by][what], () -> x.greedy(by, what));
            }
        }
        KIT.refused("kind -1", BAD_NUMBER, () -> x.greedy(-1, 0));
        KIT.refused("kind 3", BAD_NUMBER, () -> x.greedy(3, 0));
        KIT.refused("what -1", BAD_NUMBER, () -> x.greedy(2, -1));
        KIT.refused("what 4", BAD_NUMBER, () -> x.greedy(2, 4));
        KIT.says("LAZY: 0 the set, 1 how many were ASKED, 2 how many GREEDY 1 would ask");
        int[] lazy = {15, 9, 10};
        for (int i = 0; i < 3; i++) {
            int what = i;
            due("lazy(" + what + ")", lazy[what], () -> x.lazy(what));
        }
        KIT.refused("lazy(-1)", BAD_NUMBER, () -> x.lazy(-1));
        KIT.refused("lazy(3)", BAD_NUMBER, () -> x.lazy(3));
    }

    private static void boundAndFewest() {
        KIT.says("0 SINGLE (NONE), 1 BOUND, 2 behind how many steps BOUND is least (0: by nothing; the fewest), 3 SHARE");
        CoverExtract none = new CoverExtract();
        CoverExtract x = TestKit.with(FOUR);
        int[] ofNone = {-1, 0, 0, 1000};
        int[] ofFour = {0, 11, 2, 1000};
        for (int i = 0; i < 4; i++) {
            int what = i;
            due("of nothing: bound(" + what + ")", ofNone[what], () -> none.bound(what));
            due("bound(" + what + ")", ofFour[what], () -> x.bound(what));
        }
        KIT.refused("bound(-1)", BAD_NUMBER, () -> x.bound(-1));
        KIT.refused("bound(4)", BAD_NUMBER, () -> x.bound(4));
        KIT.says("FEWEST: 0 the set, 1 how many, 2 LENGTH.");
        int[] fewest = {10, 2, 14};
        for (int i = 0; i < 3; i++) {
            int what = i;
            due("of nothing: fewest(" + what + ")", 0, () -> none.fewest(what));
            due("fewest(" + what + ")", fewest[what], () -> x.fewest(what));
        }
        KIT.refused("fewest(-1)", BAD_NUMBER, () -> x.fewest(-1));
        KIT.refused("fewest(3)", BAD_NUMBER, () -> x.fewest(3));
    }

    private static void worth() {
        KIT.says("`int worth(int sentence) throws NoSuchElementException`: WORTH.");
        CoverExtract x = sixteen();
        x.budget(144);
        due("of the first", 3, () -> x.worth(0));
        due("of the last", 3, () -> x.worth(15));
        x.budget(143);
        due("another takes its place", 0, () -> x.worth(15));
        KIT.refused("of a 17th", NO_SUCH, () -> x.worth(16));
        KIT.refused("of one ahead", NO_SUCH, () -> x.worth(-1));
        KIT.refused("of none", NO_SUCH, () -> new CoverExtract().worth(0));
    }

    private static void budgetsAsked() {
        KIT.says("BEST for a BUDGET (0 to 9,999)");
        CoverExtract x = sixteen();
        due("best for 0", 0, () -> x.best(0, 1));
        due("best for 9,999", 48, () -> x.best(9999, 1));
        due("the budget asked for counts, not the one that stands", 1, () -> x.best(9, 0));
        due("which stays", 100, () -> x.told(2));
        KIT.refused("best(-1)", BAD_NUMBER, () -> x.best(-1, 0));
        KIT.refused("best(10,000)", BAD_NUMBER, () -> x.best(10000, 0));
        KIT.says("NEXT above a BUDGET (0 to 9,999); NONE: none COVERS more");
        due("next above 0", 9, () -> x.next(0));
        due("next above the last but one", 144, () -> x.next(143));
        due("none covers more", -1, () -> x.next(144));
        due("none above 9,999", -1, () -> x.next(9999));
        KIT.refused("next(-1)", BAD_NUMBER, () -> x.next(-1));
        KIT.refused("next(10,000)", BAD_NUMBER, () -> x.next(10000));
        KIT.says("SHORTEST for a share: 0 the set, 1 what it COVERS, 2 LENGTH");
        due("share 0", 0, () -> x.shortest(0, 2));
        due("share 100", 144, () -> x.shortest(100, 2));
        KIT.refused("share -1", BAD_NUMBER, () -> x.shortest(-1, 2));
        KIT.refused("share 101", BAD_NUMBER, () -> x.shortest(101, 2));
    }

    private static void exchangeNone() {
        KIT.says("EXCHANGE: 0 which goes, 1 which comes, 2 what is COVERED then; NONE: there is none.");
        CoverExtract x = TestKit.with("a. b c.");
        for (int i = 0; i < 3; i++) {
            int what = i;
            due("none: exchange(" + what + ")", -1, () -> x.exchange(what));
        }
        x.take(0);
        int[] want = {0, 1, 2};
        for (int i = 0; i < 3; i++) {
            int what = i;
            due("exchange(" + what + ")", want[what], () -> x.exchange(what));
        }
        KIT.refused("exchange(3)", BAD_NUMBER, () -> x.exchange(3));
        KIT.refused("exchange(-1)", BAD_NUMBER, () -> x.exchange(-1));
    }

    private static void likeDue(CoverExtract x, int one, int other, int both, int either) {
        due("likeness of " + one + ", " + other, both, () -> x.likeness(one, other, 0));
        due("by", either, () -> x.likeness(one, other, 1));
        due("likeness of " + other + ", " + one, both, () -> x.likeness(other, one, 0));
        due("by", either, () -> x.likeness(other, one, 1));
    }

    private static void likeness() {
        KIT.says("0 WEIGHT of WORDS that both have, 1 of those that one has or both; in lowest terms (0 by 1, if it is 0)");
        CoverExtract x = TestKit.with("a b. b c. d. d. e.");
        x.weigh(0, 1000);
        x.weigh(1, 500);
        x.weigh(2, 0);
        likeDue(x, 0, 1, 1, 3);
        likeDue(x, 0, 0, 1, 1);
        likeDue(x, 0, 2, 0, 1);
        likeDue(x, 2, 3, 1, 1);
        x.weigh(1, 0);
        likeDue(x, 0, 1, 0, 1);
        likeDue(x, 1, 1, 0, 1);
        x.weigh(3, 0);
        likeDue(x, 2, 3, 0, 1);
        x.weigh(1, 7);
        likeDue(x, 0, 1, 7, 1007);
        x.weigh(1, 1);
        likeDue(x, 0, 1, 1, 1001);
        x.weigh(0, 0);
        likeDue(x, 0, 1, 1, 1);
        KIT.refused("of one behind", NO_SUCH, () -> x.likeness(5, 0, 0));
        KIT.refused("to one behind", NO_SUCH, () -> x.likeness(0, 5, 0));
        KIT.refused("what 2", BAD_NUMBER, () -> x.likeness(0, 0, 2));
    }

    private static void printSmall() {
        KIT.says("31 times what there is, and WEIGHT of its unlike WORDS, 31 times that, and GAIN");
        due("of none", 0, () -> new CoverExtract().print());
        CoverExtract x = TestKit.with("a a b.");
        due("of one: 2 times 31 and 2", 64, x::print);
        x.take(0);
        due("taken: 2 times 31", 62, x::print);
        x.weigh(0, 0);
        x.weigh(1, 0);
        due("without weight", 0, x::print);
    }

    private static void printWraps() {
        KIT.says("From 0 on, of SENTENCE by SENTENCE");
        CoverExtract x = sixteen();
        for (int w = 0; w < 48; w++) {
            x.weigh(w, 1000 - w);
        }
        x.take(5);
        BigInteger sum = BigInteger.ZERO;
        BigInteger times = BigInteger.valueOf(31);
        for (int s = 0; s < 16; s++) {
            int weight = 3 * (1000 - 3 * s) - 3;
            int gain = s == 5 ? 0 : weight;
            sum = sum.multiply(times).add(BigInteger.valueOf(weight));
            sum = sum.multiply(times).add(BigInteger.valueOf(gain));
        }
        KIT.compare("beyond a long", "true", Boolean.toString(sum.bitLength() > 63));
        due("wraps round as a long does", sum.longValue(), x::print);
    }

    private static void status() {
        KIT.says("0 NoSuchElementException, 1 IllegalArgumentException, 2 IllegalStateException; NONE for others");
        CoverExtract x = TestKit.with("a.");
        int[] others = {-1, 3, 4, 100, Integer.MIN_VALUE, Integer.MAX_VALUE};
        for (int what : others) {
            due("status(" + what + ")", -1, () -> x.status(what));
        }
        for (int what = 0; what < 3; what++) {
            int reason = what;
            due("asking for others is no refusal: " + what, 0, () -> x.status(reason));
        }
        for (int i = 1; i <= 100; i++) {
            int many = i;
            TestKit.told(() -> x.words(1));
            due("refused " + i + " times", many, () -> x.status(0));
        }
        x.undo();
        TestKit.read(x, "b.");
        due("neither undo nor text takes it back", 100, () -> x.status(0));
        due("the others stay 0", 0, () -> x.status(1) + x.status(2));
    }

    private static void calls512() {
        KIT.says("An object is used for at most 512 calls after it has been made");
        CoverExtract x = new CoverExtract();
        x.feed(0x612e622e, BLANKS, BLANKS, BLANKS, BLANKS);
        x.text(4);
        for (int call = 3; call <= 510; call += 2) {
            int gain = call;
            due("weigh, call " + call, call == 3 ? 1 : call - 2, () -> x.weigh(1, gain));
            due("best, call " + (call + 1), call + 1, () -> x.best(4, 1));
        }
        due("call 511", 7, x::undo);
        due("call 512", 508, () -> x.best(9999, 1));
    }
}
