import java.io.IOException;
import java.io.UncheckedIOException;
import java.nio.file.Files;
import java.nio.file.Path;
import java.util.ArrayList;
import java.util.List;
import java.util.regex.Pattern;

/** The document, sentence by sentence, and which of them the tests have quoted. */
final class Doc {
    /** Stands for what comes before the promises, in place of a promise's number. */
    static final int TERMS = 0;

    private static final Path PLACE = Path.of("../shared/DOC.md");
    private static final Pattern BOUNDARY = Pattern.compile("^Throws |^- `|^Returns .*\\d|Undoable");
    private static final String[] SECTIONS = sections();
    private static final List<List<String>> QUOTED = new ArrayList<>();

    static {
        for (int i = 0; i < SECTIONS.length; i++) {
            QUOTED.add(new ArrayList<>());
        }
    }

    private Doc() {
    }

    private static String[] sections() {
        try {
            return Files.readString(PLACE).split("(?m)^## Promise \\d+: |^## Not promised");
        } catch (IOException unread) {
            throw new UncheckedIOException(unread);
        }
    }

    /** What is looked at from here on is due as the document says in this sentence. */
    static void says(int promise, String sentence) {
        String at = promise == TERMS ? "terms" : "promise " + promise;
        Check.about(at + ", \"" + sentence + "\"");
        Check.due("the document has the sentence", SECTIONS[promise].contains(sentence), true);
        QUOTED.get(promise).add(sentence);
    }

    /** Each line of a promise that throws, limits or saves, and each sentence of the terms, was quoted by a test. */
    static void dueAllQuoted(List<String> needless) {
        Check.about("all that names a boundary case has a test");
        Check.due("promises of the document", SECTIONS.length - 2, 59);
        for (int promise = 1; promise < SECTIONS.length - 1; promise++) {
            for (String line : SECTIONS[promise].split("\n")) {
                if (BOUNDARY.matcher(line).find()) {
                    Check.due("promise " + promise + ", quoted: " + line, isQuoted(promise, line), true);
                }
            }
        }
        String terms = SECTIONS[TERMS].substring(SECTIONS[TERMS].indexOf("## Terms"));
        for (String line : terms.split("\n")) {
            for (String sentence : line.split("(?<=\\.\\)?)\\s+")) {
                boolean isText = sentence.endsWith(".") || sentence.endsWith(".)");
                if (isText && needless.stream().noneMatch(sentence::contains)) {
                    Check.due("terms, quoted: " + sentence, isQuoted(TERMS, sentence), true);
                }
            }
        }
    }

    private static boolean isQuoted(int promise, String line) {
        return QUOTED.get(promise).stream().anyMatch(quote -> line.contains(quote) || quote.contains(line));
    }
}
