import java.io.IOException;
import java.nio.file.DirectoryStream;
import java.nio.file.Files;
import java.nio.file.Path;
import java.util.regex.Matcher;
import java.util.regex.Pattern;

/** Each sentence of the document's terms and promises is quoted by a test that holds the program to it. */
public final class SentencesTest {
    private static final Path TESTS = Path.of("src/test/java");
    private static final String LITERAL = "\"((?:[^\"\\\\]|\\\\.)*)\"";
    private static final Pattern QUOTE = Pattern.compile("Due\\.says\\(((?:\\s*\\+?\\s*" + LITERAL + ")+)\\)");

    public static void main(String[] args) throws IOException {
        String document = Due.document();
        boolean[] quoted = new boolean[document.length()];
        try (DirectoryStream<Path> files = Files.newDirectoryStream(TESTS, "*.java")) {
            for (Path file : files) {
                markQuotes(Files.readString(file), document, quoted);
            }
        }
        markWhatIsNoPromise(document, quoted);
        for (String left : unquoted(document, quoted).split("\n")) {
            Due.holds("a test quotes: " + left, !left.matches(".*[A-Za-z0-9].*"));
        }
        Due.end();
    }

    private static void markQuotes(String test, String document, boolean[] quoted) {
        Matcher quote = QUOTE.matcher(test);
        while (quote.find()) {
            StringBuilder words = new StringBuilder();
            Matcher part = Pattern.compile(LITERAL).matcher(quote.group(1));
            while (part.find()) {
                words.append(part.group(1));
            }
            mark(words.toString(), document, quoted);
        }
    }

    private static void mark(String words, String document, boolean[] quoted) {
        for (int at = document.indexOf(words); at >= 0; at = document.indexOf(words, at + 1)) {
            for (int i = at; i < at + words.length(); i++) {
                quoted[i] = true;
            }
        }
    }

    /** What comes ahead of all promises and behind them, and the face, which RulesTest looks at. */
    private static void markWhatIsNoPromise(String document, boolean[] quoted) {
        mark(between(document, "# ThreeMasters", "An object is used for"), document, quoted);
        mark(between(document, "## The public face", "MEASURES 0 to 2"), document, quoted);
        mark(document.substring(between(document, "# ThreeMasters", "## Not promised").length()), document, quoted);
        Matcher aside = Pattern.compile("## Promise \\d+: [\\w ]+? (?=`)|`(int|long|Three)[^`]*`: |=+ \\d |```(text)?").matcher(document);
        while (aside.find()) {
            for (int i = aside.start(); i < aside.end(); i++) {
                quoted[i] = true;
            }
        }
    }

    private static String between(String document, String first, String end) {
        Due.says(first);
        Due.says(end);
        int start = Math.max(0, document.indexOf(first));
        return document.substring(start, Math.max(start, document.indexOf(end)));
    }

    private static String unquoted(String document, boolean[] quoted) {
        StringBuilder left = new StringBuilder();
        for (int i = 0; i < document.length(); i++) {
            left.append(quoted[i] ? '\n' : document.charAt(i));
        }
        return left.toString();
    }
}
