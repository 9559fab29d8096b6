import java.io.IOException;
import java.nio.file.Files;
import java.nio.file.Path;
import java.util.LinkedHashSet;
import java.util.List;
import java.util.Set;

/**
 * Run behind all tests, with the document and the file of what they have quoted: each quote stands in
 * the document at one place, and no word of the document is without a quote.
 */
public final class DocumentWords {
    private static boolean wrong;

    public static void main(String[] args) throws IOException {
        String document = wordsOf(Files.readAllLines(Path.of(args[0])));
        boolean[] quoted = new boolean[document.length()];
        Set<String> quotes = new LinkedHashSet<>(Files.readAllLines(Path.of(args[1])));
        for (String quote : quotes) {
            mark(document, quote, quoted);
        }
        tellTheRest(document, quoted);
        System.out.println(quotes.size() + " quotes, " + document.length() + " characters of the document");
        if (wrong) {
            System.exit(1);
        }
    }

    /** The document in one line, without headings, marks of blocks and the promises' signatures. */
    private static String wordsOf(List<String> lines) {
        StringBuilder words = new StringBuilder();
        for (String line : lines) {
            if (!line.startsWith("#") && !line.startsWith("```")) {
                words.append(line.replaceFirst("^`[^`]*`: ", "")).append(' ');
            }
        }
        return words.toString().replaceAll("\\s+", " ").trim();
    }

    private static void mark(String document, String quote, boolean[] quoted) {
        int at = document.indexOf(quote);
        if (at < 0 || document.indexOf(quote, at + 1) >= 0) {
            wrong = true;
            System.out.println("not at one place in the document: " + quote);
            return;
        }
        for (int i = at; i < at + quote.length(); i++) {
            quoted[i] = true;
        }
    }

    private static void tellTheRest(String document, boolean[] quoted) {
        int from = 0;
        for (int i = 0; i <= document.length(); i++) {
            if (i == document.length() || quoted[i]) {
                String rest = document.substring(from, i).trim();
                if (!rest.isEmpty()) {
                    wrong = true;
                    System.out.println("no test has quoted: " + rest);
                }
                from = i + 1;
            }
        }
    }
}
