import java.io.IOException;
import java.nio.file.Files;
import java.nio.file.Path;
import java.util.ArrayList;
import java.util.List;

/** Counts the answers that are not the ones that are due. */
final class Due {
    private static final Path DOCUMENT = Path.of("../shared/DOC.md");

    private int wrong;
    private String under = "";
    private final List<String> quoted = new ArrayList<>();

    /** What is asked from here on belongs to a sentence, or to a part of one, of the document: its very words. */
    void sentence(int promise, String words) {
        under = "promise " + promise + ", '" + words + "': ";
        quoted.add(words);
    }

    void is(String call, long got, long want) {
        if (got != want) {
            wrong++;
            System.out.println(under + call + " answered " + got + ", due is " + want);
        }
    }

    /** A call that is no question is refused: it answers -1, and STATUS tells why. */
    void refused(KnowHouse x, String call, int got, int why) {
        is(call, got, -1);
        is("status() behind " + call, x.status(), why);
    }

    /** A call that is no question is done. */
    void done(KnowHouse x, String call, int got, int want) {
        is(call, got, want);
        is("status() behind " + call, x.status(), 0);
    }

    void end() {
        checkQuotes();
        if (wrong != 0) {
            System.out.println(wrong + " answers are not as due");
            System.exit(1);
        }
    }

    /** So that no test stands for words that the document does not say. */
    private void checkQuotes() {
        if (quoted.isEmpty() || !Files.isReadable(DOCUMENT)) {
            return;
        }
        String document = inOneLine(document());
        for (String words : quoted) {
            under = "";
            is("the document says '" + words + "'", document.contains(inOneLine(words)) ? 1 : 0, 1);
        }
    }

    private static String document() {
        try {
            return Files.readString(DOCUMENT);
        } catch (IOException unread) {
            throw new IllegalStateException("cannot read " + DOCUMENT.toAbsolutePath(), unread);
        }
    }

    private static String inOneLine(String text) {
        return text.replaceAll("\\s+", " ");
    }
}
