import java.io.IOException;
import java.nio.file.DirectoryStream;
import java.nio.file.Files;
import java.nio.file.Path;
import java.util.TreeSet;
import java.util.regex.Matcher;
import java.util.regex.Pattern;

/** Of the tests of sentences: each promise has some, and each of them is called. */
final class EdgesListTest {
    private static final Path TESTS = Path.of("src/test/java");
    private static final int PROMISES = 32;
    private static final Due DUE = new Due();

    public static void main(String[] args) throws IOException {
        TreeSet<Integer> promises = new TreeSet<>();
        try (DirectoryStream<Path> files = Files.newDirectoryStream(TESTS, "Edges*Test.java")) {
            for (Path file : files) {
                String text = Files.readString(file);
                Matcher sentence = Pattern.compile("DUE\\.sentence\\((\\d+),").matcher(text);
                while (sentence.find()) {
                    promises.add(Integer.valueOf(sentence.group(1)));
                }
                eachIsCalled(file, text);
            }
        }
        for (int promise = 1; promise <= PROMISES; promise++) {
            DUE.is("tests of sentences of promise " + promise, promises.contains(promise) ? 1 : 0, 1);
        }
        DUE.end();
    }

    private static void eachIsCalled(Path file, String text) {
        Matcher method = Pattern.compile("private static void (\\w+)\\(\\) \\{").matcher(text);
        while (method.find()) {
            boolean isCalled = Pattern.compile("(?m)^ +" + method.group(1) + "\\(\\);").matcher(text).find();
            DUE.is(file.getFileName() + " calls " + method.group(1), isCalled ? 1 : 0, 1);
        }
    }
}
