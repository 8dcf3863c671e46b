import java.io.IOException;
import java.nio.charset.StandardCharsets;
import java.nio.file.Files;
import java.nio.file.Path;
import java.util.Set;
import java.util.TreeSet;

/**
 * Answers that are due by a sentence of the document. Each check bears the promise's number and the
 * sentence's words, and those words must stand in the document under that promise (TERMS: ahead of
 * the first), so that a test can't go on naming what the document no longer says.
 */
final class Sentences {
    /** The part of the document ahead of the first promise. */
    static final int TERMS = 0;

    private static final Path DOCUMENT = Path.of("../shared/DOC.md");

    private final Check check = new Check();
    private final Set<Integer> named = new TreeSet<>();
    private final String[] parts;
    private String label = "";

    Sentences() {
        parts = read();
    }

    private static String[] read() {
        if (!Files.exists(DOCUMENT)) {
            return new String[0];
        }
        try {
            String text = Files.readString(DOCUMENT, StandardCharsets.UTF_8);
            String[] parts = text.split("\n## (?=Promise |Not promised)");
            for (int i = 0; i < parts.length; i++) {
                parts[i] = parts[i].replace("`", "").replaceAll("\\s+", " ");
            }
            return parts;
        } catch (IOException e) {
            throw new IllegalStateException(e);
        }
    }

    /** The checks that follow are due by this sentence. */
    void says(int promise, String words) {
        label = (promise == TERMS ? "Terms" : "Promise " + promise) + ", '" + words + "': ";
        named.add(promise);
        if (parts.length > 0) {
            boolean numbered = promise == TERMS || parts[promise].startsWith("Promise " + promise + ":");
            check.due(label + "has its number in the document", numbered, true);
            check.due(label + "stands in the document", parts[promise].contains(words), true);
        }
    }

    void due(String call, long got, long want) {
        check.due(label + call, got, want);
    }

    void due(String call, boolean got, boolean want) {
        check.due(label + call, got, want);
    }

    /** A text, its fault and where it is: 0 and NONE if it is to be read. */
    void fault(String text, int fault, int place) {
        TalkTables x = new TalkTables();
        int trees = Check.text(x, text);
        String call = "text '" + text + "'";
        due(call, trees == TalkTables.NONE, fault != 0);
        due(call + " fault(0)", x.fault(0), fault);
        due(call + " fault(1)", x.fault(1), place);
    }

    /** Ends the test; a promise from first to last without a sentence is wrong, too. */
    void finish(String name, int first, int last) {
        for (int promise = first; promise <= last; promise++) {
            check.due("sentences of promise " + promise, named.contains(promise), true);
        }
        check.finish(name);
    }

    /** A table whose cells are 1 where row and column are one, else 0. */
    static String equality(int side) {
        StringBuilder text = new StringBuilder();
        for (int r = 0; r < side; r++) {
            for (int c = 0; c < side; c++) {
                text.append(r == c ? '1' : '0');
            }
            text.append(';');
        }
        return text.toString();
    }

    /** A table that is full of one sign. */
    static String filled(int rows, int columns, char sign) {
        return (String.valueOf(sign).repeat(columns) + ";").repeat(rows);
    }
}
