import java.io.IOException;
import java.io.UncheckedIOException;
import java.nio.file.Files;
import java.nio.file.Path;

/** What the tests share: answers that are due, told and counted. */
final class Due {
    static final Path DOCUMENT = Path.of("../shared/DOC.md");
    private static final String WORDS = document();

    private static int passed = 0;
    private static int failed = 0;

    private Due() {
    }

    /** The document with all white space made one sign, so that a quote may go over its lines. */
    static String document() {
        try {
            return inOneLine(Files.readString(DOCUMENT));
        } catch (IOException cause) {
            throw new UncheckedIOException(cause);
        }
    }

    static String inOneLine(String text) {
        return text.replaceAll("\\s+", " ");
    }

    /** The words that a test holds the program to: they must stand in the document. SentencesTest looks that none is left. */
    static void says(String words) {
        holds("the document says: " + words, WORDS.contains(words));
    }

    static void is(String call, long got, long want) {
        if (got == want) {
            passed++;
            return;
        }
        failed++;
        System.out.println(call + " answered " + got + ", due is " + want);
    }

    static void holds(String what, boolean holds) {
        is(what, holds ? 1 : 0, 1);
    }

    /** Answers of one call for arguments in a row. */
    static void row(String calls, long[] got, long... want) {
        is(calls + " (how many)", got.length, want.length);
        for (int i = 0; i < Math.min(got.length, want.length); i++) {
            is(calls + " [" + i + "]", got[i], want[i]);
        }
    }

    /** The least long and x more, for a refusal -x. */
    static long refusal(int code) {
        return Long.MIN_VALUE - code;
    }

    /** The object, with the text typed behind its plan. */
    static ThreeMasters typed(ThreeMasters x, String text) {
        for (int i = 0; i < text.length(); i++) {
            x.type(text.charAt(i));
        }
        return x;
    }

    static ThreeMasters plan(String text) {
        return typed(new ThreeMasters(), text);
    }

    static void end() {
        System.out.println(passed + " answers as due, " + failed + " not");
        if (failed != 0) {
            System.exit(1);
        }
    }
}
