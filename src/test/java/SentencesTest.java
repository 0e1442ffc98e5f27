import java.io.IOException;
import java.nio.file.DirectoryStream;
import java.nio.file.Files;
import java.nio.file.Path;
import java.util.regex.Matcher;
import java.util.regex.Pattern;

/** Each bit of the document, from "Terms" to the last promise, has rows of its own: a test that says it word by word. */
final class SentencesTest {
    private static final Path TESTS = Path.of("src/test/java");
    private static final String WORDS = "(\"(?:[^\"\\\\]|\\\\.)*\"(?:\\s*\\+\\s*\"(?:[^\"\\\\]|\\\\.)*\")*)";
    private static final Pattern SAID = Pattern.compile("\\bsays\\((?:(\\d+),\\s*)?" + WORDS);
    private static final Due DUE = new Due();

    private SentencesTest() { }

    public static void main(String[] args) throws IOException {
        StringBuilder[] left = new StringBuilder[Document.PROMISES + 1];
        for (int promise = 0; promise < left.length; promise++) {
            left[promise] = new StringBuilder(Document.section(promise));
        }
        try (DirectoryStream<Path> tests = Files.newDirectoryStream(TESTS, "*Test.java")) {
            for (Path test : tests) {
                strikeOut(Files.readString(test), left);
            }
        }
        for (int promise = 0; promise < left.length; promise++) {
            DUE.same("what no test says of " + promise, left[promise].toString().strip(), "");
        }
        DUE.end();
    }

    /** What a test says is struck out; what stands in the document has letters or numbers, so spaces alone may be left. */
    private static void strikeOut(String source, StringBuilder[] left) {
        Matcher said = SAID.matcher(source);
        while (said.find()) {
            int promise = said.group(1) == null ? Document.TERMS : Integer.parseInt(said.group(1));
            String words = unquoted(said.group(2));
            int place = Document.section(promise).indexOf(words);
            DUE.due("the document says \"" + words + "\"", place >= 0 ? 1 : 0, 1);
            for (int i = 0; place >= 0 && i < words.length(); i++) {
                left[promise].setCharAt(place + i, ' ');
            }
        }
    }

    private static String unquoted(String literals) {
        return literals.replaceAll("\"\\s*\\+\\s*\"", "").replaceAll("^\"|\"$", "").replace("\\\"", "\"");
    }
}
