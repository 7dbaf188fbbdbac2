import java.io.IOException;
import java.nio.file.DirectoryStream;
import java.nio.file.Files;
import java.nio.file.Path;
import java.util.ArrayList;
import java.util.List;
import java.util.regex.Matcher;
import java.util.regex.Pattern;

/**
 * Compares the document with the sentences that the tests name: each line of a promise that tells a range, an exception
 * or NONE has a test of its own, and each test names a sentence that stands in the document.
 */
public final class SentenceTests {
    private static final Path DOCUMENT = Path.of("..", "shared", "DOC.md");
    private static final Path TESTS = Path.of("src", "test", "java");
    private static final Pattern TEXT = Pattern.compile("\"((?:[^\"\\\\]|\\\\.)*)\"");
    private static final Pattern NAMED = Pattern.compile("(?:Check\\.sentence\\((\\d+),|(String FIRST_NAMED =))\\s*"
            + "(" + TEXT.pattern() + "(?:\\s*\\+\\s*" + TEXT.pattern() + ")*)");

    private record Sentence(int promise, String words) {
    }

    private SentenceTests() {
    }

    public static void main(String[] args) throws IOException {
        if (!Files.isReadable(DOCUMENT)) {
            System.out.println("SentenceTests: there is no document to compare with");
            return;
        }
        List<Sentence> boundaries = new ArrayList<>();
        String whole = read(boundaries);
        List<Sentence> named = named();
        for (Sentence boundary : boundaries) {
            boolean tested = named.stream()
                    .anyMatch(s -> s.promise == boundary.promise && boundary.words.contains(s.words));
            Check.same("a test of promise " + boundary.promise + ", \"" + boundary.words + "\"", "" + tested, "true");
        }
        for (Sentence sentence : named) {
            Check.same("the document has \"" + sentence.words + "\"", "" + whole.contains(sentence.words), "true");
        }
        Check.end("SentenceTests");
    }

    /** Adds the lines that tell a boundary; returns the whole document in one line. */
    private static String read(List<Sentence> boundaries) throws IOException {
        StringBuilder whole = new StringBuilder();
        int promise = 0;
        for (String line : Files.readAllLines(DOCUMENT)) {
            whole.append(line.strip()).append(' ');
            if (line.startsWith("## Promise ")) {
                promise = Integer.parseInt(line.substring(11, line.indexOf(':')));
            } else if (line.startsWith("## ")) {
                promise = 0;
            }
            boolean range = line.startsWith("- `") && line.matches(".*[0-9].*");
            if (promise > 0 && (range || line.startsWith("Throws ") || line.contains("NONE"))) {
                boundaries.add(new Sentence(promise, line.strip()));
            }
        }
        return whole.toString();
    }

    private static List<Sentence> named() throws IOException {
        List<Sentence> named = new ArrayList<>();
        try (DirectoryStream<Path> files = Files.newDirectoryStream(TESTS, "*BoundaryTests.java")) {
            for (Path file : files) {
                Matcher call = NAMED.matcher(Files.readString(file));
                while (call.find()) {
                    int promise = call.group(1) == null ? 0 : Integer.parseInt(call.group(1));
                    named.add(new Sentence(promise, joined(call.group(3))));
                }
            }
        }
        return named;
    }

    private static String joined(String texts) {
        StringBuilder words = new StringBuilder();
        Matcher part = TEXT.matcher(texts);
        while (part.find()) {
            words.append(part.group(1));
        }
        return words.toString();
    }
}
