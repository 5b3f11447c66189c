import java.io.IOException;
import java.io.UncheckedIOException;
import java.nio.charset.StandardCharsets;
import java.nio.file.Files;
import java.nio.file.Path;

/** What the tests share: calls with the answer that is due, and texts put on the tape. */
final class TestKit {
    interface Call {
        long answer();
    }

    private static final Path DOCUMENT = Path.of("../shared/DOC.md");

    private final String name;
    private int checks = 0;
    private int wrong = 0;
    private String sentence = "";

    TestKit(String name) {
        this.name = name;
    }

    /** The document's text in one line. */
    static String document() {
        try {
            return Files.readString(DOCUMENT).replaceAll("\\s+", " ");
        } catch (IOException e) {
            throw new UncheckedIOException(e);
        }
    }

    /** The checks that follow are of these words, which must stand in the document. */
    void says(String words) {
        sentence = "";
        compare("the document says '" + words + "'", "true", Boolean.toString(document().contains(words)));
        sentence = "'" + words + "': ";
    }

    void due(String what, long want, Call call) {
        compare(what, Long.toString(want), told(call));
    }

    void refused(String what, Class<? extends RuntimeException> want, Call call) {
        compare(what, want.getSimpleName(), told(call));
    }

    void compare(String what, String want, String got) {
        checks++;
        if (!want.equals(got)) {
            wrong++;
            System.out.println(name + ": " + sentence + what + " answered " + got + ", due is " + want);
        }
    }

    static String told(Call call) {
        try {
            return Long.toString(call.answer());
        } catch (RuntimeException e) {
            return e.getClass().getSimpleName();
        }
    }

    void finish() {
        System.out.println(name + ": " + checks + " checks, " + wrong + " wrong");
        if (wrong != 0 || checks == 0) {
            System.exit(1);
        }
    }

    static int[] numbersOf(byte[] bytes, int from) {
        int[] numbers = new int[5];
        for (int i = 0; i < 20; i++) {
            int b = from + i < bytes.length ? bytes[from + i] & 255 : 0;
            numbers[i / 4] = numbers[i / 4] << 8 | b;
        }
        return numbers;
    }

    static void feed(CoverExtract x, String text) {
        byte[] bytes = text.getBytes(StandardCharsets.ISO_8859_1);
        for (int from = 0; from < bytes.length; from += 20) {
            int[] v = numbersOf(bytes, from);
            x.feed(v[0], v[1], v[2], v[3], v[4]);
        }
    }

    static int read(CoverExtract x, String text) {
        feed(x, text);
        return x.text(text.length());
    }

    static CoverExtract with(String text) {
        CoverExtract x = new CoverExtract();
        read(x, text);
        return x;
    }
}
