import java.io.IOException;
import java.nio.file.DirectoryStream;
import java.nio.file.Files;
import java.nio.file.Path;
import java.util.BitSet;
import java.util.regex.Matcher;
import java.util.regex.Pattern;

/** Each sentence of the document's terms and promises is one that a test names with Due.sentence. */
public final class SentencesTest {
    /** What joins two sentences ("Behind it:", "2 READER of a GRID as a KIND:") is no longer than that. */
    private static final int WORDS_BETWEEN = 8;
    private static final Pattern QUOTED = Pattern.compile("due\\.sentence\\(\"([^\"]*)\"\\)");

    public static void main(String[] args) throws IOException {
        Due due = new Due();
        due.part("sentences without a test");
        if (!Files.exists(Due.DOCUMENT)) {
            System.out.println("not looked at: there is no " + Due.DOCUMENT);
            return;
        }
        String text = promised();
        BitSet named = new BitSet();
        try (DirectoryStream<Path> tests = Files.newDirectoryStream(Path.of("src", "test", "java"), "*.java")) {
            for (Path test : tests) mark(text, Files.readString(test), named);
        }
        int sentences = 0;
        for (int from = named.nextClearBit(0); from < text.length(); sentences++) {
            int to = named.nextSetBit(from);
            String between = text.substring(from, to < 0 ? text.length() : to).trim();
            due.is("words of \"" + between + "\" beyond " + WORDS_BETWEEN, Math.max(0, words(between) - WORDS_BETWEEN), 0);
            from = to < 0 ? text.length() : named.nextClearBit(to);
        }
        due.is("there are sentences at all", sentences > 50 ? 1 : 0, 1);
        due.end();
    }

    /** Terms and promises, without headings, fences, signatures, and what is said of the interface's headings. */
    private static String promised() throws IOException {
        String document = Files.readString(Due.DOCUMENT);
        String part = document.substring(document.indexOf("## Terms"), document.indexOf("## Not promised"));
        return part.replaceAll("(?m)^(#|```|Ahead of the calls).*$", "").replaceAll("(?m)^`[^`]*`:", "")
            .replaceAll("\\s+", " ");
    }

    private static void mark(String text, String test, BitSet named) {
        Matcher quote = QUOTED.matcher(test);
        while (quote.find()) {
            for (int at = text.indexOf(quote.group(1)); at >= 0; at = text.indexOf(quote.group(1), at + 1)) {
                named.set(at, at + quote.group(1).length());
            }
        }
    }

    private static int words(String text) {
        int many = 0;
        for (String word : text.split("[^\\w]+")) if (!word.isEmpty()) many++;
        return many;
    }
}
