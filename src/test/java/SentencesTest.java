import java.io.IOException;
import java.nio.file.DirectoryStream;
import java.nio.file.Files;
import java.nio.file.Path;
import java.util.TreeMap;
import java.util.regex.Matcher;
import java.util.regex.Pattern;

/** Each promise and each section has a test that names one of its sentences; Doc looks whether the sentence stands there. */
public final class SentencesTest {
    private static final Pattern NAMED = Pattern.compile("Doc\\.(promise|term)\\((\\d+), \"");
    private static final int SECTIONS = 7;
    private static final int PROMISES = 35;

    private SentencesTest() {
    }

    public static void main(String[] args) throws IOException {
        TreeMap<String, Integer> named = new TreeMap<>();
        try (DirectoryStream<Path> tests = Files.newDirectoryStream(Path.of("src/test/java"), "*BoundsTest.java")) {
            for (Path test : tests) {
                Matcher sentence = NAMED.matcher(Files.readString(test));
                while (sentence.find()) {
                    named.merge(sentence.group(1) + " " + sentence.group(2), 1, Integer::sum);
                }
            }
        }
        for (int section = 1; section <= SECTIONS; section++) {
            Check.due("tests name a sentence of section " + section, named.containsKey("term " + section), true);
        }
        for (int promise = 1; promise <= PROMISES; promise++) {
            Check.due("tests name a sentence of promise " + promise, named.containsKey("promise " + promise), true);
        }
        System.out.println(named.values().stream().mapToInt(Integer::intValue).sum() + " sentences are named");
        Check.end();
    }
}
