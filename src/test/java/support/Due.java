import java.io.IOException;
import java.nio.file.Files;
import java.nio.file.Path;

/** Compares answers with those that are due, and tells the ones that differ. */
final class Due {
    static final Path DOCUMENT = Path.of("..", "shared", "DOC.md");

    private int wrong;
    private int asked;
    private String part = "";
    /** In one line; null until it is read, and where there is none. */
    private String document;

    void part(String name) {
        part = name;
    }

    /** What is asked from here on stands for a sentence of the document, which must say just that. */
    void sentence(String quoted) {
        part = quoted;
        if (!Files.exists(DOCUMENT)) return;
        is("stands in " + DOCUMENT, document().contains(inOneLine(quoted)) ? 1 : 0, 1);
    }

    void is(String call, long got, long want) {
        asked++;
        if (got == want) return;
        wrong++;
        System.out.println(part + ": " + call + " answered " + got + ", due is " + want);
    }

    /** Several answers in a row, in the order of what was asked for. */
    void are(String calls, long[] got, long... want) {
        is(calls + " (how many)", got.length, want.length);
        for (int i = 0; i < Math.min(got.length, want.length); i++) is(calls + " [" + i + "]", got[i], want[i]);
    }

    void end() {
        System.out.println(asked + " answers looked at, " + wrong + " not as due");
        if (wrong != 0) System.exit(1);
    }

    private String document() {
        if (document != null) return document;
        try {
            document = inOneLine(Files.readString(DOCUMENT));
        } catch (IOException e) {
            document = "";
        }
        return document;
    }

    private static String inOneLine(String text) {
        return text.replaceAll("\\s+", " ");
    }
}
