import java.nio.charset.StandardCharsets;
import java.util.Random;

/** Runs of random calls, each answer compared with the one that Model gives. */
public final class OracleTest {
    private static final TestKit KIT = new TestKit("OracleTest");
    // Of an object's 512 calls, what the last text and the last look may need is left over.
    private static final int MOST_CALLS = 512 - 60;

    public static void main(String[] args) {
        for (int run = 0; run < 400; run++) {
            new Run(run, 6, 250).go();
        }
        for (int run = 400; run < 440; run++) {
            new Run(run, 10, 120).go();
        }
        for (int run = 440; run < 446; run++) {
            new Run(run, 16, 40).go();
        }
        for (int run = 446; run < 3000; run++) {
            new Run(run, 18, 12).readTexts();
        }
        KIT.finish();
    }

    private static final class Run {
        private final int run;
        private final int mostSentences;
        private final int calls;
        private final Random random;
        private final CoverExtract real = new CoverExtract();
        private final Model model = new Model();
        private int made = 0;

        Run(int run, int mostSentences, int calls) {
            this.run = run;
            this.mostSentences = mostSentences;
            this.calls = calls;
            this.random = new Random(7919L * run + 1);
        }

        void go() {
            readText(goodText());
            for (int i = 0; i < calls && made < MOST_CALLS; i++) {
                anyCall();
            }
            checkAll();
            KIT.compare("run " + run + ": no more than 512 calls", "true", Boolean.toString(made <= 512));
        }

        void readTexts() {
            for (int i = 0; i < calls && made < MOST_CALLS; i++) {
                readText(anyText());
                same("fault()", real::fault, model::fault);
                same("told(0)", () -> real.told(0), () -> model.told(0));
                same("told(1)", () -> real.told(1), () -> model.told(1));
                same("told(3)", () -> real.told(3), () -> model.told(3));
                same("told(4)", () -> real.told(4), () -> model.told(4));
                same("told(5)", () -> real.told(5), () -> model.told(5));
                same("print()", real::print, model::print);
            }
        }

        private void same(String call, TestKit.Call got, TestKit.Call want) {
            made++;
            KIT.compare("run " + run + ": " + call, TestKit.told(want), TestKit.told(got));
        }

        private int upTo(int most) {
            return random.nextInt(most + 1);
        }

        // Mostly one that is allowed, now and then one beside.
        private int about(int least, int most) {
            if (random.nextInt(12) == 0) {
                int[] odd = {least - 1, most + 1, Integer.MIN_VALUE, Integer.MAX_VALUE, 32, 64, -32};
                return odd[random.nextInt(odd.length)];
            }
            return most < least ? least : least + upTo(most - least);
        }

        private int anySentence() {
            return about(0, model.told(0) - 1);
        }

        private int anyWord() {
            return about(0, model.told(1) - 1);
        }

        private int anyBudget() {
            return random.nextInt(3) == 0 ? about(0, 9999) : upTo(model.told(4) + 3);
        }

        private void readText(String text) {
            byte[] bytes = text.getBytes(StandardCharsets.ISO_8859_1);
            for (int from = 0; from < bytes.length; from += 20) {
                int[] v = TestKit.numbersOf(bytes, from);
                same("feed()", () -> real.feed(v[0], v[1], v[2], v[3], v[4]),
                    () -> model.feed(v[0], v[1], v[2], v[3], v[4]));
            }
            int n = random.nextInt(15) == 0 ? about(0, model.told(5)) : text.length();
            same("text(" + n + ") of '" + text + "'", () -> real.text(n), () -> model.text(n));
        }

        private String anyWordText(int pool) {
            int id = random.nextInt(pool);
            Random spell = new Random(id * 31L + 5);
            StringBuilder word = new StringBuilder();
            int letters = 1 + spell.nextInt(spell.nextInt(4) == 0 ? 10 : 3);
            for (int i = 0; i < letters; i++) {
                word.append((char) ('a' + spell.nextInt(26)));
            }
            return word.toString();
        }

        private String goodText() {
            int pool = 2 + upTo(28);
            int sentences = upTo(Math.min(16, mostSentences));
            StringBuilder text = new StringBuilder();
            for (int s = 0; s < sentences; s++) {
                int words = 1 + upTo(4);
                for (int w = 0; w < words; w++) {
                    text.append(anyWordText(pool)).append(" ".repeat(1 + (upTo(9) == 0 ? 1 : 0)));
                }
                if (upTo(3) != 0) {
                    text.setLength(text.length() - 1);
                }
                text.append(upTo(2) == 0 ? "." : ". ");
                if (text.length() > 540) {
                    break;
                }
            }
            return text.toString();
        }

        private String anyText() {
            StringBuilder text = new StringBuilder();
            int pool = upTo(2) == 0 ? 200 : 20;
            int sentences = upTo(mostSentences);
            int dense = upTo(3);
            for (int s = 0; s < sentences; s++) {
                int words = upTo(25) == 0 ? 28 + upTo(5) : 1 + upTo(dense * 2);
                for (int w = 0; w < words; w++) {
                    text.append(upTo(150) == 0 ? "abcdefghijklm".substring(0, 9 + upTo(4)) : anyWordText(pool));
                    text.append(' ');
                }
                text.append(".");
            }
            if (text.length() > 0 && upTo(2) == 0) {
                char[] odd = {'.', ' ', 'A', '{', '`', 0, 200, ',', 10, 'q', '/'};
                text.setCharAt(random.nextInt(text.length()), odd[random.nextInt(odd.length)]);
            }
            if (text.length() > 0 && upTo(5) == 0) {
                text.setLength(upTo(text.length()));
            }
            text.setLength(Math.min(text.length(), 600));
            return text.toString();
        }

        private void anyCall() {
            switch (random.nextInt(13)) {
                case 0, 1, 2 -> anyAct();
                case 3, 4 -> anyHand();
                case 5, 6 -> anyLook();
                case 7, 8 -> anyGreedy();
                default -> anySearch();
            }
        }

        private void anyAct() {
            int w = anyWord();
            int odds = random.nextInt(24);
            if (odds == 0) {
                readText(upTo(2) == 0 ? anyText() : goodText());
                same("fault()", real::fault, model::fault);
            } else if (odds < 7) {
                int weight = upTo(2) == 0 ? about(0, 1000) : upTo(5);
                same("weigh(" + w + ", " + weight + ")", () -> real.weigh(w, weight), () -> model.weigh(w, weight));
            } else if (odds < 13) {
                boolean is = random.nextBoolean();
                same("lean(" + w + ", " + is + ")", () -> real.lean(w, is), () -> model.lean(w, is));
            } else if (odds < 18) {
                int n = anyBudget();
                same("budget(" + n + ")", () -> real.budget(n), () -> model.budget(n));
            } else {
                same("undo()", real::undo, model::undo);
            }
        }

        private void anyHand() {
            int s = anySentence();
            if (upTo(2) != 0) {
                same("take(" + s + ")", () -> real.take(s), () -> model.take(s));
            } else {
                same("drop(" + s + ")", () -> real.drop(s), () -> model.drop(s));
            }
            same("told(7)", () -> real.told(7), () -> model.told(7));
        }

        private void anyLook() {
            int s = anySentence();
            int t = anySentence();
            int w = anyWord();
            int what = about(0, 9);
            switch (random.nextInt(8)) {
                case 0 -> same("told(" + what + ")", () -> real.told(what), () -> model.told(what));
                case 1, 2 -> same("sentence(" + s + ", " + what + ")",
                    () -> real.sentence(s, what), () -> model.sentence(s, what));
                case 3 -> same("words(" + s + ")", () -> real.words(s), () -> model.words(s));
                case 4 -> same("word(" + w + ", " + what % 5 + ")",
                    () -> real.word(w, what % 5), () -> model.word(w, what % 5));
                case 5 -> same("letter(" + w + ", " + what + ")",
                    () -> real.letter(w, what), () -> model.letter(w, what));
                case 6 -> same("likeness(" + s + ", " + t + ", " + what % 3 + ")",
                    () -> real.likeness(s, t, what % 3), () -> model.likeness(s, t, what % 3));
                default -> same("print()", real::print, model::print);
            }
        }

        private void anyGreedy() {
            int kind = about(0, 2);
            int what = about(0, 3);
            int k = about(0, 5);
            switch (random.nextInt(5)) {
                case 0 -> same("greedy(" + kind + ", " + what + ")",
                    () -> real.greedy(kind, what), () -> model.greedy(kind, what));
                case 1 -> same("step(" + kind + ", " + k + ")",
                    () -> real.step(kind, k), () -> model.step(kind, k));
                case 2 -> same("lazy(" + kind + ")", () -> real.lazy(kind), () -> model.lazy(kind));
                case 3 -> same("bound(" + what + ")", () -> real.bound(what), () -> model.bound(what));
                default -> same("status(" + what + ")", () -> real.status(what), () -> model.status(what));
            }
        }

        private void anySearch() {
            int budget = anyBudget();
            int what = about(0, 2);
            int share = about(0, 100);
            int s = anySentence();
            switch (random.nextInt(6)) {
                case 0 -> same("best(" + budget + ", " + what + ")",
                    () -> real.best(budget, what), () -> model.best(budget, what));
                case 1 -> same("fewest(" + what + ")", () -> real.fewest(what), () -> model.fewest(what));
                case 2 -> same("shortest(" + share + ", " + what + ")",
                    () -> real.shortest(share, what), () -> model.shortest(share, what));
                case 3 -> same("worth(" + s + ")", () -> real.worth(s), () -> model.worth(s));
                case 4 -> same("exchange(" + what + ")", () -> real.exchange(what), () -> model.exchange(what));
                default -> same("next(" + budget + ")", () -> real.next(budget), () -> model.next(budget));
            }
        }

        private void checkAll() {
            for (int i = 0; i < 10; i++) {
                int what = i;
                same("told(" + what + ")", () -> real.told(what), () -> model.told(what));
                same("status(" + what + ")", () -> real.status(what), () -> model.status(what));
            }
            same("print()", real::print, model::print);
        }
    }
}
