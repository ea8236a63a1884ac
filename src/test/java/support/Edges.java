import java.io.IOException;
import java.io.UncheckedIOException;
import java.nio.file.Files;
import java.nio.file.Path;
import java.util.Arrays;
import java.util.Map;
import java.util.TreeMap;
import java.util.function.Supplier;
import java.util.regex.Matcher;
import java.util.regex.Pattern;

/**
 * The document's sentences that name an edge. A test quotes the words that it is for, so that words which are not
 * the document's, and words of it that no test quotes, are found.
 */
final class Edges {
    static final String ILLEGAL = "throws.IllegalArgumentException";
    static final String STATE = "throws.IllegalStateException";
    static final String NONE = "throws.NoSuchElementException";
    static final String ARITHMETIC = "throws.ArithmeticException";

    private static final Path DOCUMENT = Path.of("../shared/DOC.md");
    private static final Pattern HEAD = Pattern.compile("(?m)^## (Terms|Promise \\d+).*$");
    private static final Pattern EXCEPTION = Pattern.compile("[A-Z]\\w*Exception:");
    private static final Pattern BRACKET = Pattern.compile("\\([^()]*\\)");
    private static final String BETWEEN = "[A-Z]\\w*Exception:|\\bor\\b|[,;.\\s]";

    private final Map<String, String> texts = new TreeMap<>();
    private final Map<String, boolean[]> quoted = new TreeMap<>();
    private String section;

    interface Act {
        void on(SealTrust trust);
    }

    interface Ask {
        Object of(SealTrust trust);
    }

    /** Takes the sections whose titles begin so. */
    Edges(String title) {
        String document = read();
        Matcher head = HEAD.matcher(document);
        while (head.find()) {
            if (head.group(1).startsWith(title)) {
                String text = textOf(document, head.end());
                texts.put(head.group(1), text);
                quoted.put(head.group(1), new boolean[text.length()]);
            }
        }
        Check.due("the document has such sections as " + title, texts.isEmpty(), false);
    }

    private static String read() {
        try {
            return Files.readString(DOCUMENT);
        } catch (IOException e) {
            throw new UncheckedIOException(e);
        }
    }

    /** What stands below a title, without the call's own line up to its colon. */
    private static String textOf(String document, int from) {
        int next = document.indexOf("\n## ", from);
        String body = document.substring(from, next < 0 ? document.length() : next).strip();
        String plain = body.replaceAll("\\s+", " ");
        return plain.startsWith("`") ? plain.substring(plain.indexOf("`:") + 2) : plain;
    }

    void in(String title) {
        section = title;
    }

    /** At least two answers are due for a sentence: one on each side of its edge. */
    void sentence(String words, Runnable tests) {
        String text = texts.getOrDefault(section, "");
        int at = text.indexOf(words);
        Check.due(section + " says: " + words, at >= 0, true);
        for (; at >= 0; at = text.indexOf(words, at + 1)) {
            Arrays.fill(quoted.get(section), at, at + words.length(), true);
        }
        int before = Check.done();
        Check.under(section + ", " + words + ": ", tests);
        Check.due(section + " has answers on both sides of: " + words, Check.done() - before >= 2, true);
    }

    void end(String test) {
        for (String title : texts.keySet()) {
            Check.due(title + " has words of exceptions without a test", unquotedExceptions(title), "");
            Check.due(title + " has brackets without a test", unquotedBrackets(title), "");
        }
        Check.end(test);
    }

    private String unquotedExceptions(String title) {
        Matcher first = EXCEPTION.matcher(texts.get(title));
        return first.find() ? unquoted(title, first.start(), texts.get(title).length()).replaceAll(BETWEEN, "") : "";
    }

    private String unquotedBrackets(String title) {
        StringBuilder left = new StringBuilder();
        Matcher bracket = BRACKET.matcher(texts.get(title));
        while (bracket.find()) {
            left.append(unquoted(title, bracket.start(), bracket.end()));
        }
        return left.toString();
    }

    private String unquoted(String title, int from, int to) {
        StringBuilder left = new StringBuilder();
        for (int i = from; i < to; i++) {
            if (!quoted.get(title)[i]) {
                left.append(texts.get(title).charAt(i));
            }
        }
        return left.toString();
    }

    /** The call throws so, and leaves all as it is on an object to which it was never made. */
    static void refused(String exception, Supplier<SealTrust> made, String call, Act act) {
        SealTrust trust = made.get();
        Check.acts(call + " is refused", exception, () -> act.on(trust));
        Check.due(call + " is refused and changes nothing", everything(trust), everything(made.get()));
    }

    static void allowed(Supplier<SealTrust> made, String call, Act act) {
        SealTrust trust = made.get();
        Check.acts(call + " is allowed", "nothing", () -> act.on(trust));
    }

    static void answers(Object due, Supplier<SealTrust> made, String call, Ask ask) {
        SealTrust trust = made.get();
        Check.due(call, due, () -> ask.of(trust));
    }

    /** All that an object can be asked; the buffer's bytes are asked for last, as a motion's block. */
    static String everything(SealTrust trust) {
        StringBuilder all = new StringBuilder();
        for (int what = 0; what <= 10; what++) {
            all.append(trust.state(what)).append(' ');
        }
        int motions = (int) trust.state(2);
        for (int motion = 0; motion < motions; motion++) {
            all.append("\nbook ").append(trust.book(motion)).append(", motion ").append(motion).append(':');
            for (int what = 0; what < 5; what++) {
                all.append(' ').append(trust.told(motion, what));
            }
            all.append(partials(trust, motion));
        }
        if (trust.state(4) > 0 && trust.state(0) > 0 && motions < 12) {
            all.append("\nbuffer ").append(trust.told(trust.motion(), 1));
        }
        return all.toString();
    }

    private static String partials(SealTrust trust, int motion) {
        StringBuilder all = new StringBuilder();
        for (int trustee = 0; trustee < 6; trustee++) {
            if ((trust.told(motion, 2) >> trustee & 1) == 1) {
                for (int what = 0; what < 3; what++) {
                    all.append(' ').append(trust.partial(motion, trustee, what));
                }
            }
        }
        return all.toString();
    }
}
