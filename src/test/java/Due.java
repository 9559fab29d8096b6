import java.io.IOException;
import java.nio.file.Files;
import java.nio.file.Path;
import java.nio.file.StandardOpenOption;
import java.util.ArrayList;
import java.util.List;

/** Compares answers with those that are due, and counts the wrong ones. */
final class Due {
    private final List<String> quotes = new ArrayList<>();
    private String sentence = "";
    private int wrong;
    private int looked;
    private int lookedBefore;

    /** The document's words, as they stand there, that the answers from here on belong to. */
    String of(String words) {
        return of(words, "");
    }

    /** The same, for one case of several. */
    String of(String words, String which) {
        endSentence();
        sentence = which.isEmpty() ? words : words + " | " + which;
        quotes.add(words);
        lookedBefore = looked;
        return words;
    }

    private void endSentence() {
        if (!sentence.isEmpty() && looked == lookedBefore) {
            wrong++;
            System.out.println("no answer is compared for: " + sentence);
        }
        sentence = "";
    }

    void is(String call, long got, long want) {
        looked++;
        if (got != want) {
            wrong++;
            String where = sentence.isEmpty() ? "" : "[" + sentence + "] ";
            System.out.println(where + call + " answered " + got + ", due is " + want);
        }
    }

    void is(String call, boolean got, boolean want) {
        is(call, got ? 1L : 0L, want ? 1L : 0L);
    }

    void none(String call, long got) {
        is(call, got, -1L);
    }

    /** An edge's u or e where the document asks for an ArithmeticException. */
    void edgeThrows(Tried x, int i, int what) {
        boolean thrown = false;
        try {
            x.edge(i, what);
        } catch (ArithmeticException e) {
            thrown = true;
        }
        is("edge(" + i + ", " + what + ") throws ArithmeticException", thrown, true);
    }

    /** All totals at once: wires, acts, looks, faults, checks, edges. */
    void totals(String when, Tried x, int... wants) {
        for (int what = 0; what < wants.length; what++) {
            is(when + ": total(" + what + ")", x.total(what), wants[what]);
        }
    }

    boolean allRight() {
        return wrong == 0;
    }

    void end() {
        endSentence();
        keepQuotes();
        System.out.println(looked + " answers, " + wrong + " of them wrong");
        if (wrong != 0 || looked == 0) {
            System.exit(1);
        }
    }

    /** For DocumentWords, which looks for words of the document that no test has quoted. */
    private void keepQuotes() {
        String file = System.getProperty("quotes");
        if (file == null) {
            return;
        }
        try {
            Files.write(Path.of(file), quotes, StandardOpenOption.CREATE, StandardOpenOption.APPEND);
        } catch (IOException e) {
            wrong++;
            System.out.println("the quotes can't be kept: " + e);
        }
    }
}
