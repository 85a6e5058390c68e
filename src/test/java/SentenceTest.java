import java.io.IOException;
import java.nio.file.Files;
import java.nio.file.Path;
import java.util.regex.Pattern;

/**
 * A test for each sentence of the document that names a boundary, and a look at the document itself: the words of
 * each test are there, under its promise, and each sentence with the mark of a boundary has a test.
 */
public final class SentenceTest {
    private static final Path DOCUMENT = Path.of("../shared/DOC.md");
    // What tells that a sentence names a boundary: an error code, a number, a condition, an exception.
    private static final Pattern MARK = Pattern.compile(
        "[A-Z]+_[A-Z]+|\\bFULL\\b|\\bOVER\\b|\\d|\\bif\\b|\\bwithout\\b|\\bnone\\b|\\bany\\b|\\bpossibly\\b|\\bchecked\\b"
        + "|Throws|\\bonly\\b|\\bno\\b|\\bnot\\b|\\bempt|\\ball\\b|\\bnothing\\b|\\bmore\\b|\\bfirst\\b|\\blast\\b");
    private static final int PROMISES = 58;

    private static int missing = 0;

    public static void main(String[] args) throws IOException {
        VersionSentences.all();
        TextSentences.all();
        QuestionSentences.all();
        ChangeSentences.all();
        if (Files.isReadable(DOCUMENT)) {
            compare(Files.readString(DOCUMENT));
        } else {
            System.out.println("sentences: there is no " + DOCUMENT + " to compare the tests with");
        }
        System.out.println("sentences: " + Sentences.TOLD.size() + " tests, " + Sentences.answers + " answers looked at, "
            + Sentences.wrong + " not as due, " + missing + " sentences or tests without the other");
        if (Sentences.wrong != 0 || missing != 0) {
            System.exit(1);
        }
    }

    private static void compare(String document) {
        for (int promise = 0; promise <= PROMISES; promise++) {
            String section = section(document, promise);
            for (Sentences.Told told : Sentences.TOLD) {
                if (told.promise() == promise && !section.contains(told.words())) {
                    miss("promise " + promise + " has not the words of the test: " + told.words());
                }
            }
            for (String sentence : sentences(section)) {
                if (MARK.matcher(sentence).find() && !isTested(promise, sentence)) {
                    miss("promise " + promise + " has no test of: " + sentence);
                }
            }
        }
    }

    private static void miss(String text) {
        missing++;
        System.out.println(text);
    }

    /** What is told behind the head of a promise, or of the description, without the signature. */
    private static String section(String document, int promise) {
        String head = promise == 0 ? "## Description\n" : "## Promise " + promise + ": ";
        int from = document.indexOf(head);
        int to = document.indexOf("\n## ", from + 1);
        if (from < 0 || to < 0) {
            miss("there is no head " + head);
            return "";
        }
        String text = document.substring(from + head.length(), to).replaceAll(" +", " ");
        return promise == 0 ? text : text.substring(text.indexOf('\n')).replaceAll("(?m)^`.*`$", "");
    }

    /** The sentences, and their parts between the signs ';'; the list of a parameter's values is one of them. */
    private static String[] sentences(String section) {
        return plain(section.replaceAll("(?m)^- ", "")).split("(?<=[.;)])\\s+|\n+");
    }

    private static boolean isTested(int promise, String sentence) {
        String asked = sentence.replaceAll("[.;]$", "");
        for (Sentences.Told told : Sentences.TOLD) {
            String words = plain(told.words());
            if (told.promise() == promise && (words.contains(asked) || asked.contains(words.replaceAll("[.;]$", "")))) {
                return true;
            }
        }
        return false;
    }

    private static String plain(String text) {
        return text.replaceAll(" ?\\(see [A-Za-z ]+\\)", "");
    }
}
