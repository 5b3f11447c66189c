import java.lang.management.ManagementFactory;

/** What the dearest runs of calls make, and that they end soon. */
public final class RoomTest {
    // The room has some 600,000 objects and 7.3 million elements for all objects of a run together.
    private static final long MOST_BYTES = 1_000_000;
    // An object is used for 512 calls; some thirty put the text on the tape.
    private static final int CALLS = 512 - 40;

    private static final TestKit KIT = new TestKit("RoomTest");

    private interface Ask {
        void of(CoverExtract x, int i);
    }

    public static void main(String[] args) {
        check("a text a time", (x, i) -> readAgain(x, i));
        check("weigh", (x, i) -> x.weigh(i % 8, i));
        check("budget", (x, i) -> x.budget(i));
        check("budget and undo", (x, i) -> {
            if (i % 2 == 0) {
                x.budget(i);
            } else {
                x.undo();
            }
        });
        check("greedy", (x, i) -> x.greedy(i % 3, i % 4));
        check("lazy", (x, i) -> x.lazy(i % 3));
        check("bound", (x, i) -> x.bound(i % 4));
        check("best", (x, i) -> x.best(i, i % 3));
        check("fewest", (x, i) -> x.fewest(i % 3));
        check("shortest", (x, i) -> x.shortest(i % 101, i % 3));
        check("worth", (x, i) -> x.worth(i % 16));
        check("exchange", (x, i) -> x.exchange(i % 3));
        check("next", (x, i) -> x.next(i));
        check("refusals", (x, i) -> TestKit.told(() -> x.take(-1)));
        KIT.finish();
    }

    private static String text(int turn) {
        StringBuilder text = new StringBuilder();
        for (int s = 0; s < 16; s++) {
            for (int w = 0; w < 12; w++) {
                int word = (s * (5 + turn % 7) + w * w + w * turn) % 48;
                text.append((char) ('a' + word % 24)).append((char) ('a' + word / 24)).append(' ');
            }
            text.append('.');
        }
        return text.toString();
    }

    private static void readAgain(CoverExtract x, int i) {
        int[] v = {0x6120622e, 0x20622063, 0x2e202020, 0x20202020, 0x20202020};
        if (i % 2 == 0) {
            x.feed(v[0], v[1], v[2], v[3], v[4]);
        } else {
            x.text(i % 12);
        }
    }

    private static void check(String name, Ask ask) {
        String text = text(name.length());
        CoverExtract x = TestKit.with(text);
        KIT.compare(name + ": text", "16", Integer.toString(x.told(0)));
        x.budget(150);
        x.lean(3, true);
        TestKit.told(() -> x.take(2));
        long before = made();
        long start = System.nanoTime();
        for (int i = 0; i < CALLS; i++) {
            ask.of(x, i);
        }
        long bytes = made() - before;
        long seconds = (System.nanoTime() - start) / 1_000_000_000L;
        KIT.compare(name + ": " + bytes + " bytes are few", "true", Boolean.toString(bytes < MOST_BYTES));
        KIT.compare(name + ": " + seconds + " s is soon", "true", Boolean.toString(seconds < 30));
    }

    private static long made() {
        var threads = (com.sun.management.ThreadMXBean) ManagementFactory.getThreadMXBean();
        return threads.getThreadAllocatedBytes(Thread.currentThread().getId());
    }
}
