import java.io.IOException;
import java.nio.file.Files;
import java.nio.file.Path;

/**
 * The document, so that a test can name the sentence that it holds: one that does not stand there is a wrong answer.
 * Where the document itself is out of reach, the tests go without.
 */
final class Doc {
    private static final Path PLACE = Path.of("../shared/DOC.md");
    private static final String TEXT = read();

    private Doc() {
    }

    private static String read() {
        try {
            return Files.readString(PLACE).replaceAll("\\s+", " ");
        } catch (IOException gone) {
            System.out.println(PLACE + " can't be read: no sentence is looked up");
            return "";
        }
    }

    private static String between(String from, String to) {
        int first = TEXT.indexOf(from);
        int last = TEXT.indexOf(to, first + 1);
        return first < 0 || last < 0 ? "" : TEXT.substring(first, last);
    }

    private static void says(String where, String part, String sentence) {
        if (!TEXT.isEmpty()) {
            Check.due(where + " says: " + sentence, part.contains(sentence), true);
        }
    }

    /** Sections 1 to 7 of the terms. */
    static void term(int section, String sentence) {
        String end = section == 7 ? "## Promise 1:" : "==== " + (section + 1) + ".";
        says("section " + section, between("==== " + section + ".", end), sentence);
    }

    static void promise(int number, String sentence) {
        String end = number == 35 ? "## Not promised" : "## Promise " + (number + 1) + ":";
        says("promise " + number, between("## Promise " + number + ":", end), sentence);
    }
}
