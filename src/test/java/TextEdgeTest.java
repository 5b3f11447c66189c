/** "Terms", first part: each sentence on texts, faults, weights and chains that names a boundary has a test. */
public final class TextEdgeTest {
    private static final TestKit KIT = new TestKit("TextEdgeTest");
    private static final String TEN = "abcdefghij";
    private static final String ELEVEN = "abcdefghijk";

    public static void main(String[] args) {
        bytes();
        sentences();
        wordsOfOne();
        letters();
        everyByte();
        blanks();
        unlikeWords();
        lengths();
        firstFault();
        outOfPlace();
        longWord();
        tooMany();
        faultsOfOneByte();
        weights();
        leaning();
        chains();
        covered();
        budgets();
        bits();
        gainAndCost();
        fitting();
        KIT.finish();
    }

    private static void due(String what, long want, TestKit.Call call) {
        KIT.due(what, want, call);
    }

    private static void good(String text, int sentences) {
        CoverExtract x = new CoverExtract();
        due("text '" + text + "'", sentences, () -> TestKit.read(x, text));
        due("fault of '" + text + "'", -1, x::fault);
        due("sentences of '" + text + "'", sentences, () -> x.told(0));
    }

    private static void bad(String text, int fault, int place) {
        CoverExtract x = new CoverExtract();
        due("text '" + text + "'", fault - 10, () -> TestKit.read(x, text));
        due("fault of '" + text + "'", place, x::fault);
        due("sentences behind '" + text + "'", 0, () -> x.told(0));
    }

    /** 48 unlike words of two letters in two sentences of 24: 144 bytes. */
    private static String fortyEight() {
        StringBuilder text = new StringBuilder();
        for (int i = 0; i < 48; i++) {
            text.append((char) ('a' + i / 24)).append((char) ('a' + i % 24)).append(i % 24 == 23 ? '.' : ' ');
        }
        return text.toString();
    }

    private static void bytes() {
        KIT.says("A TEXT has up to 600 bytes");
        String full = (TEN + " ").repeat(27) + "ab." + (TEN + " ").repeat(27) + "ab.";
        due("the full text's bytes", 600, full::length);
        good(full, 2);
        good(" ".repeat(599) + " ", 0);
        good(" ".repeat(598) + "a.", 1);
        bad(" ".repeat(599) + "a", 1, 600);
        bad(" ".repeat(599) + ".", 1, 599);
        CoverExtract x = new CoverExtract();
        TestKit.feed(x, full);
        due("599 of 600", -9, () -> x.text(599));
        due("its fault", 599, x::fault);
        good("", 0);
    }

    private static void sentences() {
        KIT.says("SENTENCES (0 to 16, numbered from 0 on)");
        good("", 0);
        good(" ", 0);
        good("a.", 1);
        good("a.".repeat(15), 15);
        good("a.".repeat(16), 16);
        bad("a.".repeat(17), 3, 32);
        CoverExtract x = TestKit.with("a. bb. ccc.");
        due("sentence 0", 2, () -> x.sentence(0, 0));
        due("sentence 1", 3, () -> x.sentence(1, 0));
        due("sentence 2", 4, () -> x.sentence(2, 0));
        CoverExtract most = TestKit.with("a.".repeat(15) + "bbb.");
        due("sentence 15", 4, () -> most.sentence(15, 0));
        KIT.refused("sentence 16", java.util.NoSuchElementException.class, () -> most.sentence(16, 0));
    }

    private static void wordsOfOne() {
        KIT.says("each of 1 to 30 WORDS and a \".\" behind");
        bad(".", 1, 0);
        bad(" .", 1, 1);
        bad("a..", 1, 2);
        bad("a. .", 1, 3);
        bad("a", 1, 1);
        good("a.", 1);
        good("a ".repeat(29) + "a.", 1);
        bad("a ".repeat(30) + "a.", 3, 60);
        good("a ".repeat(29) + "a." + "a ".repeat(29) + "a.", 2);
        CoverExtract x = TestKit.with("a ".repeat(29) + "a.");
        due("30 words", 30, () -> x.sentence(0, 1));
        due("one unlike", 1, () -> x.sentence(0, 2));
        CoverExtract one = TestKit.with("a.");
        due("1 word", 1, () -> one.sentence(0, 1));
    }

    private static void letters() {
        KIT.says("a WORD: 1 to 10 small letters");
        good("a.", 1);
        good("z.", 1);
        good(TEN + ".", 1);
        good("zzzzzzzzzz.", 1);
        bad(ELEVEN + ".", 2, 0);
        bad("A.", 1, 0);
        bad("Z.", 1, 0);
        bad("`.", 1, 0);
        bad("{.", 1, 0);
        CoverExtract x = TestKit.with("z " + TEN + ".");
        due("1 letter", 1, () -> x.word(0, 1));
        due("10 letters", 10, () -> x.word(1, 1));
        due("the 10th", 'j', () -> x.letter(1, 9));
    }

    private static boolean isLetter(int b) {
        return b >= 'a' && b <= 'z';
    }

    private static void everyByte() {
        KIT.says("1 what can't stand there");
        for (int b = 0; b < 256; b++) {
            boolean stands = isLetter(b) || b == ' ';
            if (stands) {
                good((char) b + "a.", 1);
                good("a" + (char) b + ".", 1);
                good("a" + (char) b + "a.", 1);
            } else {
                bad((char) b + "a.", 1, 0);
                bad("a " + (char) b + (b == '.' ? "." : " a."), 1, b == '.' ? 3 : 2);
            }
            if (b == ' ') {
                good("a." + (char) b, 1);
            } else {
                bad("a." + (char) b, 1, isLetter(b) ? 3 : 2);
            }
        }
    }

    private static void blanks() {
        KIT.says("blanks (32) may stand ahead of all of these and at the end, between two WORDS at least one");
        good("   a   bb   .   ccc   .   ", 2);
        good("a bb.ccc.", 2);
        CoverExtract wide = TestKit.with("   a   bb   .   ccc   .   ");
        CoverExtract tight = TestKit.with("a bb.ccc.");
        for (int w = 0; w < 5; w++) {
            int what = w;
            due("blanks are no part, told(" + w + ")", tight.told(w), () -> wide.told(what));
        }
        CoverExtract one = TestKit.with("abb.");
        due("no blank: one word", 1, () -> one.sentence(0, 1));
        CoverExtract two = TestKit.with("a bb.");
        due("one blank: two words", 2, () -> two.sentence(0, 1));
        good("abcdef ghijk.", 1);
        bad("abcdefghijk.", 2, 0);
        bad("a\tb.", 1, 1);
        bad("a\nb.", 1, 1);
        bad("a\u00a0b.", 1, 1);
    }

    private static void unlikeWords() {
        KIT.says("Unlike WORDS (48 at most) are numbered as they come");
        CoverExtract x = TestKit.with("b a b. c ab a.");
        due("four unlike", 4, () -> x.told(1));
        due("word 0", 'b', () -> x.letter(0, 0));
        due("word 1", 'a', () -> x.letter(1, 0));
        due("word 2", 'c', () -> x.letter(2, 0));
        due("word 3", 2, () -> x.word(3, 1));
        CoverExtract begun = TestKit.with("a aa aaa aaaaaaaaa aaaaaaaaaa.");
        due("words that begin alike are unlike", 5, () -> begun.told(1));
        CoverExtract last = TestKit.with("aaaaaaaaaa aaaaaaaaab.");
        due("words that end otherwise are unlike", 2, () -> last.told(1));
        good(fortyEight(), 2);
        good(fortyEight() + "bx aa.", 3);
        bad(fortyEight() + "by.", 3, 144);
        CoverExtract most = TestKit.with(fortyEight());
        due("48 unlike", 48, () -> most.told(1));
        due("word 47", 'x', () -> most.letter(47, 1));
        due("numbered anew", 1, () -> TestKit.read(most, "zz."));
        due("one unlike", 1, () -> most.told(1));
        due("word 0 anew", 'z', () -> most.letter(0, 0));
    }

    private static void lengths() {
        KIT.says("LENGTH of a SENTENCE: its WORDS' letters (each WORD as often as it stands), and 1 for each WORD");
        CoverExtract x = TestKit.with("a.  ab   ab c  . " + (TEN + " ").repeat(30) + ".");
        due("the shortest", 2, () -> x.sentence(0, 0));
        due("each word as often as it stands", 8, () -> x.sentence(1, 0));
        due("the longest", 330, () -> x.sentence(2, 0));
        due("all", 340, () -> x.told(4));
        CoverExtract none = TestKit.with("");
        due("of none", 0, () -> none.told(4));
    }

    private static void firstFault() {
        KIT.says("FAULTS, the first from the left, at its first byte");
        bad("a " + ELEVEN + " !", 2, 2);
        bad("! " + ELEVEN + ".", 1, 0);
        bad("a! " + ELEVEN + ".", 1, 1);
        bad("a ".repeat(30) + "b " + ELEVEN + ".", 3, 60);
        bad(ELEVEN + " " + "a ".repeat(31) + ".", 2, 0);
        bad("a ".repeat(31) + "!", 3, 60);
        bad("a ".repeat(30) + "! a.", 1, 60);
        bad("a.".repeat(17) + "!", 3, 32);
        bad("a.".repeat(15) + "! a. a. a.", 1, 30);
        bad(fortyEight() + "zz " + ELEVEN + ".", 3, 144);
        bad("..", 1, 0);
    }

    private static void outOfPlace() {
        KIT.says("1 what can't stand there (at the length, if the text ends too early)");
        bad("a", 1, 1);
        bad("a ", 1, 2);
        bad("a. b", 1, 4);
        bad("a. b  ", 1, 6);
        bad("a b c", 1, 5);
        good("a. ", 1);
        CoverExtract x = new CoverExtract();
        TestKit.feed(x, "a b.");
        due("what lies behind n does not count", -9, () -> x.text(3));
        due("at n, not at the tape's end", 3, x::fault);
        CoverExtract y = new CoverExtract();
        TestKit.feed(y, "a.!!!");
        due("nor does a bad byte", 1, () -> y.text(2));
        due("no fault", -1, y::fault);
    }

    private static void longWord() {
        KIT.says("2 a WORD of more than 10 letters");
        good(TEN + " " + TEN + ".", 1);
        bad(ELEVEN + ".", 2, 0);
        bad("a " + ELEVEN + "l.", 2, 2);
        bad("a. " + ELEVEN, 2, 3);
        bad(ELEVEN, 2, 0);
        bad(ELEVEN + "!", 2, 0);
        bad(TEN + "!", 1, 10);
        bad("a".repeat(600), 2, 0);
        bad(" ".repeat(589) + ELEVEN, 2, 589);
        bad(" ".repeat(590) + TEN, 1, 600);
    }

    private static void tooMany() {
        KIT.says("3 a 17th SENTENCE (at its first WORD), a 31st WORD of one, a 49th unlike one");
        bad("a.".repeat(16) + "   b.", 3, 35);
        bad("a.".repeat(16) + "b", 3, 32);
        bad("a.".repeat(16) + "a!", 3, 32);
        good("a.".repeat(16) + "   ", 16);
        bad("a.".repeat(16) + " .", 1, 33);
        bad("a.".repeat(16) + " !", 1, 33);
        bad("a ".repeat(31) + ".", 3, 60);
        bad("a ".repeat(30) + "b", 3, 60);
        bad("a. " + "a ".repeat(30) + "  a.", 3, 65);
        good("a ".repeat(30) + "  .", 1);
        good("a ".repeat(16) + ". " + "a ".repeat(15) + ".", 2);
        bad(fortyEight() + "aa  y.", 3, 148);
        bad(fortyEight() + "y", 3, 144);
        bad(fortyEight() + "a.", 3, 144);
        bad(fortyEight() + "aaa.", 3, 144);
        good(fortyEight() + "aa bx.", 3);
    }

    private static void faultsOfOneByte() {
        KIT.says("of one byte the first in this list");
        bad("a.".repeat(16) + ELEVEN + ".", 2, 32);
        bad("a ".repeat(30) + ELEVEN + ".", 2, 60);
        bad(fortyEight() + ELEVEN + ".", 2, 144);
        bad("a.".repeat(16) + TEN + ".", 3, 32);
        bad("a ".repeat(30) + TEN + ".", 3, 60);
        bad(fortyEight() + TEN + ".", 3, 144);
    }

    private static void weights() {
        KIT.says("WEIGHT of a WORD: in how many SENTENCES it stands, till it is told (0 to 1,000)");
        CoverExtract x = TestKit.with("a a a b. a b b. a.");
        due("a, in three", 3, () -> x.word(0, 0));
        due("b, in two", 2, () -> x.word(1, 0));
        due("told 0", 3, () -> x.weigh(0, 0));
        due("it is 0", 0, () -> x.word(0, 0));
        due("told 1,000", 0, () -> x.weigh(0, 1000));
        due("it is 1,000", 1000, () -> x.word(0, 0));
        due("it stands where it stood", 3, () -> x.word(0, 2));
        due("another is as before", 2, () -> x.word(1, 0));
        KIT.refused("-1", IllegalArgumentException.class, () -> x.weigh(0, -1));
        KIT.refused("1,001", IllegalArgumentException.class, () -> x.weigh(0, 1001));
        CoverExtract most = TestKit.with("a.".repeat(16));
        due("in all sixteen", 16, () -> most.word(0, 0));
        CoverExtract one = TestKit.with("a ".repeat(30) + ".");
        due("thirty times in one", 1, () -> one.word(0, 0));
    }

    private static void leaning() {
        KIT.says("A WORD LEANS, or not (none at first)");
        CoverExtract x = TestKit.with(fortyEight());
        for (int w = 0; w < 48; w++) {
            int word = w;
            due("word " + w, 0, () -> x.word(word, 3));
        }
        x.lean(47, true);
        due("the last leans", 1, () -> x.word(47, 3));
        due("the first does not", 0, () -> x.word(0, 3));
        due("nor does word 15, whose bit is 47 less 32", 0, () -> x.word(15, 3));
    }

    private static void chains() {
        KIT.says("if its first WORD LEANS and it is not SENTENCE 0, the CHAIN of the one ahead");
        CoverExtract x = TestKit.with("a b. c a. a d. e. a.");
        int[] free = {1, 2, 4, 8, 16};
        chainsDue(x, "none leans", free);
        x.lean(0, true);
        chainsDue(x, "a leans", 1, 2, 6, 8, 24);
        x.lean(2, true);
        chainsDue(x, "c leans, too", 1, 3, 7, 8, 24);
        x.lean(4, true);
        chainsDue(x, "e leans, too", 1, 3, 7, 15, 31);
        x.lean(0, false);
        chainsDue(x, "a no more", 1, 3, 4, 12, 16);
        CoverExtract all = TestKit.with("a.".repeat(16));
        all.lean(0, true);
        due("chain of 15: all", 65535, () -> all.sentence(15, 4));
        due("chain of 0: it alone", 1, () -> all.sentence(0, 4));
    }

    private static void chainsDue(CoverExtract x, String when, int... chains) {
        for (int s = 0; s < chains.length; s++) {
            int at = s;
            due(when + ": chain of " + s, chains[s], () -> x.sentence(at, 4));
        }
    }

    private static void covered() {
        KIT.says("COVERED: the WEIGHTS of all unlike WORDS in it together; LENGTH: of all its SENTENCES together");
        CoverExtract x = TestKit.with("a b a. a c.");
        due("by nothing", 0, () -> x.told(8));
        due("nothing's length", 0, () -> x.told(9));
        x.take(0);
        due("by one", 3, () -> x.told(8));
        due("its length", 6, () -> x.told(9));
        x.take(1);
        due("a counts once", 4, () -> x.told(8));
        due("but its letters each time", 10, () -> x.told(9));
        CoverExtract most = TestKit.with(fortyEight());
        for (int w = 0; w < 48; w++) {
            most.weigh(w, 1000);
        }
        due("the most that there is", 48000, () -> most.told(3));
    }

    private static void budgets() {
        KIT.says("BUDGET: 0 to 9,999 (100 at first)");
        CoverExtract x = new CoverExtract();
        due("at first", 100, () -> x.told(2));
        due("0", 100, () -> x.budget(0));
        due("0 stands", 0, () -> x.told(2));
        due("9,999", 0, () -> x.budget(9999));
        due("9,999 stands", 9999, () -> x.told(2));
        KIT.refused("-1", IllegalArgumentException.class, () -> x.budget(-1));
        KIT.refused("10,000", IllegalArgumentException.class, () -> x.budget(10000));
        due("9,999 still", 9999, () -> x.told(2));
    }

    private static void bits() {
        KIT.says("Sets of SENTENCES, of WORDS are bits");
        CoverExtract x = TestKit.with("a.".repeat(15) + "b.");
        x.take(15);
        due("sentence 15", 32768, () -> x.told(7));
        due("all sixteen", 65535, () -> {
            for (int s = 0; s < 15; s++) {
                x.take(s);
            }
            return x.told(7);
        });
        CoverExtract most = TestKit.with(fortyEight() + "bx aa.");
        due("words 0 to 23", 0xffffffL, () -> most.words(0));
        due("words 24 to 47", 0xffffff000000L, () -> most.words(1));
        due("words 47 and 0", 0x800000000001L, () -> most.words(2));
    }

    private static void gainAndCost() {
        KIT.says("by how much LENGTH is more (both 0, if its CHAIN is in it)");
        // Weights: a 3, b 2, c 1, d 1; a leans, so that the chains are 0; 0 1; 0 1 2.
        CoverExtract x = TestKit.with("a b. a c. a b d.");
        x.lean(0, true);
        gainDue(x, 2, 7, 14);
        x.take(0);
        gainDue(x, 0, 0, 0);
        gainDue(x, 1, 1, 4);
        gainDue(x, 2, 2, 10);
        x.take(2);
        gainDue(x, 0, 0, 0);
        gainDue(x, 1, 0, 0);
        gainDue(x, 2, 0, 0);
        CoverExtract late = TestKit.with("a b. a c. d.");
        late.take(1);
        gainDue(late, 1, 0, 0);
        late.lean(0, true);
        gainDue(late, 1, 1, 4);
    }

    private static void gainDue(CoverExtract x, int sentence, int gain, int cost) {
        due("gain of " + sentence, gain, () -> x.sentence(sentence, 5));
        due("cost of " + sentence, cost, () -> x.sentence(sentence, 6));
    }

    private static void fitting() {
        KIT.says("It FITS, if it is not in it and LENGTH and COST are no more than BUDGET");
        CoverExtract x = TestKit.with("aaa. bb. c.");
        x.budget(4);
        fitsDue(x, 1, 1, 1);
        x.budget(3);
        fitsDue(x, 0, 1, 1);
        x.budget(2);
        fitsDue(x, 0, 0, 1);
        x.budget(1);
        fitsDue(x, 0, 0, 0);
        x.budget(0);
        fitsDue(x, 0, 0, 0);
        x.budget(6);
        x.take(0);
        fitsDue(x, 0, 0, 1);
        x.budget(7);
        fitsDue(x, 0, 1, 1);
        x.budget(9999);
        fitsDue(x, 0, 1, 1);
        x.budget(3);
        fitsDue(x, 0, 0, 0);
        CoverExtract chained = TestKit.with("aaa. bb. c.");
        chained.lean(1, true);
        chained.lean(2, true);
        chained.budget(9);
        fitsDue(chained, 1, 1, 1);
        chained.budget(8);
        fitsDue(chained, 1, 1, 0);
        chained.take(0);
        fitsDue(chained, 0, 1, 0);
        chained.budget(9);
        fitsDue(chained, 0, 1, 1);
    }

    private static void fitsDue(CoverExtract x, int... fits) {
        for (int s = 0; s < fits.length; s++) {
            int at = s;
            due("budget " + x.told(2) + ": " + s + " fits", fits[s], () -> x.sentence(at, 7));
        }
    }
}
