/** "Terms", second part: each sentence on extracts that names a boundary has a test. */
public final class ExtractEdgeTest {
    private static final TestKit KIT = new TestKit("ExtractEdgeTest");

    // Weights: a 2, b 2, c 2, d 1, e 2, f 1, g 1; lengths: 6, 6, 2, 8.
    private static final String FOUR = "a b c. b c d. e. a e f g.";
    // Two pairs of sentences cover all, 0 with 3 and 1 with 2, alike in length; each word weighs 2.
    private static final String SQUARE = "a b. a c. b d. c d.";

    public static void main(String[] args) {
        whole();
        fromNothing();
        greedyFits();
        greedyByGain();
        greedyByRate();
        greedyOrSingle();
        single();
        lazyAtFirst();
        lazyLeaves();
        lazyStillFirst();
        boundHolds();
        boundCut();
        boundLeast();
        share();
        best();
        fewest();
        shortest();
        worth();
        exchange();
        next();
        longest();
        KIT.finish();
    }

    private static void due(String what, long want, TestKit.Call call) {
        KIT.due(what, want, call);
    }

    private static CoverExtract with(String text, int budget, int... weights) {
        CoverExtract x = TestKit.with(text);
        x.budget(budget);
        for (int w = 0; w < weights.length; w++) {
            x.weigh(w, weights[w]);
        }
        return x;
    }

    private static void greedyDue(CoverExtract x, int kind, int set, int... steps) {
        String name = "greedy " + kind;
        due(name + ": set", set, () -> x.greedy(kind, 0));
        due(name + ": steps", steps.length, () -> x.greedy(kind, 3));
        for (int k = 0; k < steps.length; k++) {
            int at = k;
            due(name + ": step " + k, steps[k], () -> x.step(kind, at));
        }
    }

    private static void whole() {
        KIT.says("An EXTRACT: a set of SENTENCES; it is WHOLE, if it has the CHAIN of each");
        CoverExtract x = with("a. b. c.", 100, 1, 2, 4);
        x.lean(1, true);
        x.lean(2, true);
        // Whole are 0 alone, 0 and 1, all, and nothing at all.
        due("nothing is whole", 0, () -> x.best(0, 0));
        due("up to 1", 0, () -> x.best(1, 0));
        due("up to 3", 1, () -> x.best(3, 0));
        due("up to 5", 3, () -> x.best(5, 0));
        due("up to 6", 7, () -> x.best(6, 0));
        due("nothing for a share of 0", 0, () -> x.shortest(0, 0));
        due("for all", 7, () -> x.fewest(0));
        // Taken by hand it may be left without its chain by a word that leans only then.
        CoverExtract late = with("a. b. c.", 100, 1, 2, 4);
        late.take(2);
        late.lean(2, true);
        due("it stays as it was taken", 4, () -> late.told(7));
        due("what it covers", 4, () -> late.told(8));
        due("nothing exchanged makes it whole", -1, () -> late.exchange(0));
        due("the one it leans on can be taken", 2, () -> late.take(1));
        due("dropped with the one that leans on it", 6, () -> late.drop(1));
        due("nothing is left", 0, () -> late.told(7));
    }

    private static void fromNothing() {
        KIT.says("GREEDY by a KIND, from nothing");
        CoverExtract x = with(FOUR, 100);
        x.take(1);
        greedyDue(x, 0, 11, 0, 3, 1);
        greedyDue(x, 1, 15, 0, 2, 3, 1);
        greedyDue(x, 2, 15, 0, 2, 3, 1);
        due("lazy, too", 9, () -> x.lazy(1));
        due("what was taken by hand stays", 2, () -> x.told(7));
    }

    private static void greedyFits() {
        KIT.says("again and again, of those that FIT and have GAIN above 0, the CHAIN of one is taken");
        for (int kind = 0; kind < 3; kind++) {
            greedyDue(new CoverExtract(), kind, 0);
            greedyDue(TestKit.with(""), kind, 0);
            greedyDue(with("aa. b.", 0), kind, 0);
            greedyDue(with("aa. b.", 1), kind, 0);
            greedyDue(with("aa. b.", 2), kind, 2, 1);
            greedyDue(with("aa. b.", 4, 9), kind, 1, 0);
            greedyDue(with("aa. b.", 5, 9), kind, 3, 0, 1);
            greedyDue(with("a. b. c.", 9999, 0, 0, 0), kind, 0);
            greedyDue(with("a. b. c.", 9999, 0, 1, 0), kind, 2, 1);
            greedyDue(with("a. a. a.", 9999), kind, 1, 0);
            CoverExtract chained = with("aa. b.", 4, 1, 9);
            chained.lean(1, true);
            greedyDue(chained, kind, 1, 0);
            chained.budget(5);
            greedyDue(chained, kind, 3, 1);
        }
    }

    private static void greedyByGain() {
        KIT.says("KIND 0: of the most GAIN");
        greedyDue(with("a. b. c.", 4, 1, 2, 2), 0, 6, 1, 2);
        greedyDue(with("a. b. c.", 2, 3, 3, 3), 0, 1, 0);
        greedyDue(with("a. b. c.", 2, 3, 3, 4), 0, 4, 2);
        greedyDue(with(FOUR, 100), 0, 11, 0, 3, 1);
        CoverExtract chained = with("a. b. c.", 9999, 1, 2, 4);
        chained.lean(1, true);
        greedyDue(chained, 0, 7, 2, 1);
        chained.lean(2, true);
        greedyDue(chained, 0, 7, 2);
    }

    private static void greedyByRate() {
        KIT.says("1: of the most GAIN for its COST (as fractions); of several the first");
        // 1 by 2, 2 by 3, 3 by 5: alike if cut.
        greedyDue(with("a. bb. cccc.", 5, 1, 2, 3), 1, 3, 1, 0);
        greedyDue(with("a. bb. cccc.", 9999, 1, 2, 3), 1, 7, 1, 2, 0);
        greedyDue(with("a. bb. cccc.", 5, 2, 3, 5), 1, 3, 0, 1);
        greedyDue(with("a. bb. cccc.", 9999, 200, 300, 501), 1, 7, 2, 0, 1);
        // 999 by 11 is 90.81.., 1,000 by 11 is 90.90.., 273 by 3 is 91.
        greedyDue(with("aaaaaaaaaa. bbbbbbbbbb. cc.", 9999, 999, 1000, 273), 1, 7, 2, 1, 0);
        CoverExtract chained = with("aaa. b.", 9999, 2, 4);
        chained.lean(1, true);
        // 2 by 4, and with its chain 6 by 6.
        greedyDue(chained, 1, 3, 1);
        chained.weigh(0, 8);
        // 8 by 4, and with its chain 12 by 6: alike, so the first.
        greedyDue(chained, 1, 3, 0, 1);
    }

    private static CoverExtract oneLong(int weight) {
        CoverExtract x = with("a. b c d e f g h i j k.", 20);
        x.weigh(0, weight);
        return x;
    }

    private static void greedyOrSingle() {
        KIT.says("KIND 2: as 1, or SINGLE, whichever COVERS more (of alike ones as 1)");
        greedyDue(oneLong(9), 1, 1, 0);
        greedyDue(oneLong(9), 2, 2, 1);
        due("what it covers", 10, () -> oneLong(9).greedy(2, 1));
        due("its length", 20, () -> oneLong(9).greedy(2, 2));
        greedyDue(oneLong(10), 2, 1, 0);
        greedyDue(oneLong(11), 2, 1, 0);
        // 1 takes 0 and 1, which cover 4; single is 2, which covers 3, 4, 5 by itself.
        greedyDue(with("a. b. c d e f.", 8, 2, 2, 0), 2, 3, 0, 1);
        greedyDue(with("a. b. c d e f.", 8, 2, 2, 1), 2, 3, 0, 1);
        greedyDue(with("a. b. c d e f.", 8, 2, 2, 2), 2, 4, 2);
        // 1 takes 1, which covers 5; single is 0, which covers 9.
        greedyDue(with("a b. a. b a.", 5, 5, 4), 1, 2, 1);
        greedyDue(with("a b. a. b a.", 5, 5, 4), 2, 1, 0);
        CoverExtract chained = with("a. b. c d e f g h i j k l m n o p q r s t.", 39, 9, 0);
        chained.lean(2, true);
        greedyDue(chained, 2, 6, 2);
        due("single with its chain", 18, () -> chained.greedy(2, 1));
        KIT.says("3 how many steps (of SINGLE 1)");
        due("steps of single", 1, () -> chained.greedy(2, 3));
        due("steps of 1", 1, () -> oneLong(10).greedy(2, 3));
        due("steps of nothing", 0, () -> new CoverExtract().greedy(2, 3));
    }

    private static void single() {
        KIT.says("SINGLE: of those that FIT nothing the one of the most GAIN, of several the first (none without GAIN)");
        due("no sentences", -1, () -> new CoverExtract().bound(0));
        due("none without gain", -1, () -> with("a. b.", 9999, 0, 0).bound(0));
        due("gain of 1", 1, () -> with("a. b.", 9999, 0, 1).bound(0));
        due("of several the first", 1, () -> with("a. b. c.", 9999, 1, 2, 2).bound(0));
        due("just as long as the budget", 0, () -> with("aaa. b.", 4, 9).bound(0));
        due("too long by one", 1, () -> with("aaa. b.", 3, 9).bound(0));
        due("none fits", -1, () -> with("aaa. b.", 1, 9).bound(0));
        CoverExtract chained = with("a. b.", 4, 5, 0);
        chained.lean(1, true);
        due("with its chain alike: the first", 0, () -> chained.bound(0));
        chained.weigh(1, 1);
        due("with its chain more", 1, () -> chained.bound(0));
        chained.budget(3);
        due("its chain does not fit", 0, () -> chained.bound(0));
        chained.budget(4);
        chained.take(1);
        due("whatever is taken by hand", 1, () -> chained.bound(0));
    }

    private static void lazyDue(CoverExtract x, int set, int asked, int greedyAsks) {
        due("lazy: set", set, () -> x.lazy(0));
        due("lazy: asked", asked, () -> x.lazy(1));
        due("lazy: greedy would ask", greedyAsks, () -> x.lazy(2));
    }

    private static void lazyAtFirst() {
        KIT.says("ASKED at first, of each SENTENCE once, counts, too");
        lazyDue(new CoverExtract(), 0, 0, 0);
        lazyDue(with("a.", 1), 0, 1, 0);
        lazyDue(with("a.", 2), 1, 2, 1);
        KIT.says("each SENTENCE with GAIN above 0 to nothing has GAIN, COST to nothing");
        lazyDue(with("a. b.", 9999, 0, 0), 0, 2, 2);
        lazyDue(with("a. b.", 9999, 1, 0), 1, 3, 3);
        KIT.says("each that FITS at each of its steps, and at the one that takes none");
        lazyDue(with("a. b. cc.", 9999), 7, 6, 6);
        lazyDue(with("a. b. cc.", 4), 3, 5, 4);
        // By kind 0 it would be 3: sentence 2 leaves no room for others.
        lazyDue(with("a. bb. cccc.", 5, 1, 2, 3), 3, 5, 4);
        lazyDue(with("a. a. a.", 9999), 1, 6, 5);
    }

    private static void lazyLeaves() {
        KIT.says("if it does not FIT now, or its CHAIN is in, it leaves the queue for good");
        lazyDue(with("a. bbb.", 2), 1, 3, 1);
        lazyDue(with("a. bbb.", 5), 1, 3, 2);
        lazyDue(with("a. bbb.", 6), 3, 4, 3);
        CoverExtract chained = with("a. b.", 9999, 1, 9);
        chained.lean(1, true);
        lazyDue(chained, 3, 3, 2);
        KIT.says("without GAIN it leaves");
        lazyDue(with("a b. a. b.", 9999), 1, 6, 5);
    }

    private static void lazyStillFirst() {
        KIT.says("if as asked now it is still the first (of those in the queue, as asked last), it is taken");
        // 3 by 4, 3 by 4, 1 by 2; sentence 1 is asked, is 1 by 4 then, and waits for sentence 2.
        lazyDue(with("a b. a c. d.", 9999), 7, 7, 6);
        // Sentence 1 does not fit any more when it is looked at.
        lazyDue(with("a b. a c. d.", 7), 5, 5, 4);
        // As asked now sentence 1 is 2 by 4, as much as sentence 2 behind it.
        lazyDue(with("a b. a c. d.", 9999, 2, 2, 2, 1), 7, 6, 6);
        // As asked now sentence 2 is 2 by 4, as much as sentence 0 ahead of it.
        lazyDue(with("d. a b. a c.", 9999, 1, 2, 2, 2), 7, 7, 6);
        KIT.says("(of several the first) is looked at");
        lazyDue(with("a. b.", 2), 1, 3, 2);
        lazyDue(with("a. b.", 2, 1, 2), 2, 3, 2);
    }

    private static void boundDue(CoverExtract x, int bound, int behind) {
        due("bound", bound, () -> x.bound(1));
        due("bound: behind how many steps", behind, () -> x.bound(2));
    }

    private static void boundHolds() {
        KIT.says("COVERED by S and what BUDGET (all of it, whatever LENGTH S has) can hold of the others");
        // By nothing 6, 2 and 5 times 2 by 6, cut: 9. Behind one step 6, 2 and 4, behind two 8 and 2.
        boundDue(with(FOUR, 10), 9, 0);
        boundDue(with(FOUR, 100), 11, 2);
        boundDue(with("a. b.", 2), 1, 0);
        KIT.says("each SENTENCE not in S by itself (without its CHAIN)");
        CoverExtract chained = with("a. b c.", 4, 1, 5, 1);
        chained.lean(1, true);
        boundDue(chained, 6, 0);
        KIT.says("its own WORDS that S has not and its own LENGTH");
        boundDue(with("a b. a b. a b.", 9999), 6, 1);
        boundDue(with("a b. a b c.", 9999), 5, 1);
    }

    private static void boundCut() {
        KIT.says("whole as long as they go into what is left of BUDGET");
        boundDue(with("a b. c d.", 8), 4, 0);
        boundDue(with("a b. c d.", 7), 3, 0);
        boundDue(with("a b. c d.", 4), 2, 0);
        KIT.says("of the first that does not go whole WEIGHT times what is left by LENGTH, cut; none behind it");
        boundDue(with("aaaaaaaaa. b.", 9, 100, 1), 90, 0);
        boundDue(with("aaaaaaaaa. b.", 9, 99, 1), 89, 0);
        boundDue(with("aaaaaaaaa. b.", 1, 9, 0), 0, 0);
        boundDue(with("aaaaaaaaa. b.", 1, 10, 0), 1, 0);
        boundDue(with("aaaaaaaaa. b.", 0, 1000, 1000), 0, 0);
        boundDue(with("a. b. c d e f.", 5), 2, 0);
        KIT.says("by WEIGHT of these for LENGTH, the most ahead (of several the first)");
        boundDue(with("aaaaaaaaa. b.", 9, 4, 1), 3, 0);
        boundDue(with("aaaaaaaaa. b.", 9, 5, 1), 4, 0);
        boundDue(with("aaaaaaaaa. b.", 9, 6, 1), 5, 0);
    }

    private static void boundLeast() {
        KIT.says("BOUND: the least of those by nothing and behind each step of GREEDY 1");
        boundDue(new CoverExtract(), 0, 0);
        boundDue(with("a. b.", 9999, 0, 0), 0, 0);
        boundDue(with("a. a. a.", 9999), 3, 1);
        boundDue(with("a. a. a.", 2), 3, 0);
        // By kind 0 sentence 1 would be taken at once, and bound be 7 behind one step.
        boundDue(with("a. b a. b.", 12, 3, 4), 7, 2);
        // Kind 2 would be single, sentence 2. Behind one step 5, 2 and 3 times 2 by 4, cut.
        boundDue(with("a. b. c b.", 4, 2, 5, 3), 8, 1);
        // One step only; with sentence 0, which does not fit, it would be 9.
        boundDue(with("a b. a. b a.", 5, 5, 4), 10, 1);
        KIT.says("2 behind how many steps BOUND is least (0: by nothing; the fewest)");
        boundDue(with("a. b. c.", 9999), 3, 0);
        CoverExtract x = with(FOUR, 100);
        boundDue(x, 11, 2);
        x.budget(10);
        boundDue(x, 9, 0);
    }

    private static void shareDue(CoverExtract x, int share) {
        due("share", share, () -> x.bound(3));
    }

    private static void share() {
        KIT.says("SHARE: what GREEDY 2 COVERS, by BOUND, in thousandths, cut (1,000, if BOUND is 0)");
        shareDue(new CoverExtract(), 1000);
        shareDue(TestKit.with(""), 1000);
        shareDue(with(FOUR, 0), 1000);
        shareDue(with("a.", 9999, 0), 1000);
        shareDue(with("a.", 9999), 1000);
        shareDue(with("aaa.", 3, 4), 0);
        shareDue(with(FOUR, 10), 888);
        // 8 by 10, which is least behind two steps: 8, 2 and 1 times 5 by 6, cut.
        shareDue(with(FOUR, 13), 800);
        // Greedy 2 covers 10 by single; bound by nothing is 9 and 10 times 18 by 20.
        shareDue(oneLong(9), 555);
        shareDue(with("a. b. c b.", 4, 2, 5, 3), 1000);
        shareDue(oneLong(2), 909);
    }

    private static void bestDue(CoverExtract x, int budget, int set, int covered, int length) {
        due("best " + budget + ": set", set, () -> x.best(budget, 0));
        due("best " + budget + ": covered", covered, () -> x.best(budget, 1));
        due("best " + budget + ": length", length, () -> x.best(budget, 2));
    }

    private static void best() {
        KIT.says("BEST for a BUDGET: of WHOLE EXTRACTS of no more LENGTH that which COVERS most");
        bestDue(new CoverExtract(), 9999, 0, 0, 0);
        bestDue(TestKit.with(FOUR), 0, 0, 0, 0);
        bestDue(TestKit.with(FOUR), 1, 0, 0, 0);
        bestDue(TestKit.with(FOUR), 2, 4, 2, 2);
        bestDue(TestKit.with(FOUR), 5, 4, 2, 2);
        bestDue(TestKit.with(FOUR), 6, 1, 6, 6);
        bestDue(TestKit.with(FOUR), 7, 1, 6, 6);
        bestDue(TestKit.with(FOUR), 8, 5, 8, 8);
        bestDue(TestKit.with(FOUR), 13, 5, 8, 8);
        bestDue(TestKit.with(FOUR), 14, 10, 11, 14);
        bestDue(TestKit.with(FOUR), 9999, 10, 11, 14);
        CoverExtract chained = with("a. b. c.", 0, 1, 1, 9);
        chained.lean(2, true);
        bestDue(chained, 2, 1, 1, 2);
        bestDue(chained, 3, 1, 1, 2);
        bestDue(chained, 4, 6, 10, 4);
        bestDue(chained, 6, 7, 11, 6);
        KIT.says("of several the shortest, of these the least as a number");
        bestDue(TestKit.with("aaa. b. cc."), 4, 2, 1, 2);
        bestDue(with("a. b. c.", 100, 3, 3, 3), 2, 1, 3, 2);
        bestDue(TestKit.with(SQUARE), 8, 6, 8, 8);
        bestDue(TestKit.with(SQUARE), 9999, 6, 8, 8);
        bestDue(with(SQUARE, 100, 0, 0, 0, 0), 9999, 0, 0, 0);
        bestDue(with("a. b.", 100, 0, 5), 9999, 2, 5, 2);
    }

    private static void fewestDue(CoverExtract x, int set, int many, int length) {
        due("fewest: set", set, () -> x.fewest(0));
        due("fewest: how many", many, () -> x.fewest(1));
        due("fewest: length", length, () -> x.fewest(2));
    }

    private static void fewest() {
        KIT.says("FEWEST: of WHOLE EXTRACTS that COVER as much as all SENTENCES together that with fewest SENTENCES");
        fewestDue(new CoverExtract(), 0, 0, 0);
        fewestDue(with("a. b.", 100, 0, 0), 0, 0, 0);
        fewestDue(with("a. b.", 100, 0, 1), 2, 1, 2);
        fewestDue(with("a. b. a b c.", 0), 4, 1, 6);
        // The longer one, since the shorter two are more.
        fewestDue(TestKit.with("a. b. a a b."), 4, 1, 6);
        fewestDue(TestKit.with("a. b. c. b cccccccccc c b."), 9, 2, 19);
        fewestDue(TestKit.with("a.".repeat(16)), 1, 1, 2);
        CoverExtract chained = TestKit.with("a. b. a b c.");
        chained.lean(0, true);
        fewestDue(chained, 6, 2, 8);
        chained.lean(1, true);
        fewestDue(chained, 7, 3, 10);
        KIT.says("of several the shortest, the least as a number");
        fewestDue(TestKit.with("a b a. a b. b a."), 2, 1, 4);
        fewestDue(TestKit.with(SQUARE), 6, 2, 8);
        fewestDue(TestKit.with("a b. a c a. b d. c d."), 9, 2, 8);
    }

    private static void shortestDue(CoverExtract x, int share, int set, int covered, int length) {
        due("shortest " + share + ": set", set, () -> x.shortest(share, 0));
        due("shortest " + share + ": covered", covered, () -> x.shortest(share, 1));
        due("shortest " + share + ": length", length, () -> x.shortest(share, 2));
    }

    private static void shortest() {
        KIT.says("SHORTEST for a share (0 to 100 hundredths of what all COVER, cut upward)");
        CoverExtract thirds = with("a. bb. ccc.", 0);
        shortestDue(thirds, 0, 0, 0, 0);
        shortestDue(thirds, 1, 1, 1, 2);
        shortestDue(thirds, 33, 1, 1, 2);
        shortestDue(thirds, 34, 3, 2, 5);
        shortestDue(thirds, 66, 3, 2, 5);
        shortestDue(thirds, 67, 7, 3, 9);
        shortestDue(thirds, 99, 7, 3, 9);
        shortestDue(thirds, 100, 7, 3, 9);
        CoverExtract halves = TestKit.with("a. bb.");
        shortestDue(halves, 50, 1, 1, 2);
        shortestDue(halves, 51, 3, 2, 5);
        CoverExtract thousands = with("a. bb.", 100, 1, 999);
        shortestDue(thousands, 99, 2, 999, 3);
        shortestDue(thousands, 100, 3, 1000, 5);
        shortestDue(new CoverExtract(), 100, 0, 0, 0);
        shortestDue(with("a. b.", 100, 0, 0), 100, 0, 0, 0);
        KIT.says("of those that COVER as much or more the shortest; of several that which COVERS most, the least as a number");
        shortestDue(with("a. b. c.", 100, 1, 5, 1), 1, 2, 5, 2);
        shortestDue(with("a. b. c.", 100, 5, 5, 5), 1, 1, 5, 2);
        shortestDue(TestKit.with(SQUARE), 100, 6, 8, 8);
        shortestDue(TestKit.with(SQUARE), 51, 6, 8, 8);
        shortestDue(TestKit.with(SQUARE), 50, 1, 4, 4);
        CoverExtract chained = with("aaaaa. b.", 100, 1, 1);
        chained.lean(1, true);
        shortestDue(chained, 1, 1, 1, 6);
        chained.weigh(1, 9);
        shortestDue(chained, 20, 3, 10, 8);
    }

    private static void worthDue(CoverExtract x, int... worths) {
        for (int s = 0; s < worths.length; s++) {
            int at = s;
            due("budget " + x.told(2) + ": worth of " + s, worths[s], () -> x.worth(at));
        }
    }

    private static void worth() {
        KIT.says("WORTH of a SENTENCE: by how much less BEST for BUDGET COVERS, if no EXTRACT may have it");
        worthDue(with(FOUR, 0), 0, 0, 0, 0);
        worthDue(with(FOUR, 1), 0, 0, 0, 0);
        worthDue(with(FOUR, 2), 0, 0, 2, 0);
        worthDue(with(FOUR, 6), 1, 0, 0, 0);
        worthDue(with(FOUR, 14), 0, 1, 0, 2);
        worthDue(with(FOUR, 9999), 0, 1, 0, 2);
        worthDue(with("a. a.", 9999), 0, 0);
        worthDue(with("a. b.", 9999, 1000, 0), 1000, 0);
        CoverExtract chained = with("a. b. c.", 9999, 1, 2, 4);
        chained.lean(1, true);
        chained.lean(2, true);
        worthDue(chained, 7, 6, 4);
        chained.budget(4);
        worthDue(chained, 3, 2, 0);
    }

    private static void exchangeDue(CoverExtract x, int goes, int comes, int covered) {
        due("exchange: goes", goes, () -> x.exchange(0));
        due("exchange: comes", comes, () -> x.exchange(1));
        due("exchange: covered", covered, () -> x.exchange(2));
    }

    private static CoverExtract taken(CoverExtract x, int... sentences) {
        for (int s : sentences) {
            x.take(s);
        }
        return x;
    }

    private static void exchange() {
        KIT.says("one SENTENCE goes, one that is not in it comes (just these)");
        exchangeDue(new CoverExtract(), -1, -1, -1);
        exchangeDue(with("a. b.", 100), -1, -1, -1);
        exchangeDue(taken(with("a. b.", 100, 1, 2), 0, 1), -1, -1, -1);
        exchangeDue(taken(with("a. b.", 100, 1, 2), 0), 0, 1, 2);
        KIT.says("so that it is WHOLE, no longer than BUDGET and COVERS most, if more than now");
        exchangeDue(taken(with("a. b.", 100, 2, 2), 0), -1, -1, -1);
        exchangeDue(taken(with("a. b.", 100, 3, 2), 0), -1, -1, -1);
        exchangeDue(taken(with("a. bb.", 3, 1, 2), 0), 0, 1, 2);
        exchangeDue(taken(with("a. bb.", 2, 1, 2), 0), -1, -1, -1);
        CoverExtract tooLong = taken(with("aaa. b. cc.", 4, 1, 2, 3), 0);
        tooLong.budget(2);
        exchangeDue(tooLong, 0, 1, 2);
        tooLong.budget(3);
        exchangeDue(tooLong, 0, 2, 3);
        CoverExtract chained = taken(with("a. b. c.", 100, 1, 5, 9), 0);
        chained.lean(1, true);
        exchangeDue(chained, 0, 2, 9);
        chained.lean(2, true);
        exchangeDue(chained, -1, -1, -1);
        chained.take(1);
        exchangeDue(chained, -1, -1, -1);
        KIT.says("of several the least that goes, then the least that comes");
        exchangeDue(taken(with("a. b. c. d.", 100, 1, 1, 2, 2), 0, 1), 0, 2, 3);
        exchangeDue(taken(with("a. b. c. d.", 100, 2, 1, 3, 3), 0, 1), 1, 2, 5);
        exchangeDue(taken(with("c. d. a. b.", 100, 2, 2, 1, 1), 2, 3), 2, 0, 3);
    }

    private static void nextDue(CoverExtract x, int budget, int next) {
        due("next(" + budget + ")", next, () -> x.next(budget));
    }

    private static void next() {
        KIT.says("NEXT: the least BUDGET, above the one told, for which BEST COVERS more");
        CoverExtract x = with(FOUR, 100);
        int[][] steps = {{0, 2}, {1, 2}, {2, 6}, {5, 6}, {6, 8}, {7, 8}, {8, 14}, {13, 14}, {14, -1}, {9999, -1}};
        for (int[] step : steps) {
            nextDue(x, step[0], step[1]);
        }
        nextDue(new CoverExtract(), 0, -1);
        nextDue(with("a. b.", 100, 0, 0), 0, -1);
        nextDue(with("a. bb.", 100, 5, 5), 2, 5);
        nextDue(with("a. bb.", 100, 5, 6), 2, 3);
        CoverExtract chained = with("a. b. c.", 0, 1, 1, 9);
        chained.lean(2, true);
        nextDue(chained, 2, 4);
        nextDue(chained, 4, 6);
        nextDue(chained, 6, -1);
    }

    // Fifteen sentences of 40 bytes that all are needed to cover all: no text has more LENGTH.
    private static void longest() {
        KIT.says("LENGTH: of all its SENTENCES together");
        StringBuilder text = new StringBuilder();
        for (int s = 0; s < 15; s++) {
            text.append("bbbbbbbbb bbbbbbbbb bbbbbbbbb aaaaaaaa").append((char) ('a' + s)).append('.');
        }
        due("the text's bytes", 600, text::length);
        CoverExtract x = with(text.toString(), 600);
        due("length of all", 600, () -> x.told(4));
        fewestDue(x, 32767, 15, 600);
        shortestDue(x, 100, 32767, 30, 600);
        bestDue(x, 599, 16383, 29, 560);
        bestDue(x, 600, 32767, 30, 600);
        bestDue(x, 9999, 32767, 30, 600);
        nextDue(x, 559, 560);
        nextDue(x, 560, 600);
        nextDue(x, 599, 600);
        nextDue(x, 600, -1);
        due("greedy covers all", 30, () -> x.greedy(1, 1));
        due("greedy's length", 600, () -> x.greedy(1, 2));
    }
}
