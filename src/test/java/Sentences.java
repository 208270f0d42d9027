import java.io.IOException;
import java.nio.file.Files;
import java.nio.file.Path;
import java.util.ArrayList;
import java.util.List;

/**
 * Tests of single sentences: each one quotes its sentence as ../shared/DOC.md has it, under the promise's number, or 0
 * for the terms. At the end no sentence of the document may be without a test.
 */
final class Sentences {
    private static final Path DOCUMENT = Path.of("../shared/DOC.md");
    private static final int PROMISES = 34;
    private static final List<String> TITLES = List.of("The board.", "Halving and joining.", "Loans.", "Ways.", "Waiting.",
        "Resizing.", "Lines.", "Texts.", "Reasons.", "Undo.", "Exceptions.", "In doubt, too.");
    private static final List<List<String>> QUOTED = new ArrayList<>();

    private Sentences() {
    }

    static void test(int promise, String sentence, Check.Call body) {
        quotedOf(promise).add(sentence);
        int asked = Check.countAsked();
        int wrong = Check.countWrong();
        try {
            body.make();
        } catch (RuntimeException e) {
            Check.same("the test", "throws " + e, "an end");
        }
        Check.same("a test of the sentence asks something", Check.countAsked() > asked, true);
        if (Check.countWrong() > wrong) {
            System.out.println("  that is a test of " + (promise == 0 ? "the terms" : "promise " + promise) + ": " + sentence);
        }
    }

    private static List<String> quotedOf(int promise) {
        while (QUOTED.size() <= PROMISES) {
            QUOTED.add(new ArrayList<>());
        }
        return QUOTED.get(promise);
    }

    /** Each sentence that was quoted stands in the document, and nothing else does. */
    static void checkAllTested() throws IOException {
        String document = Files.readString(DOCUMENT);
        for (int promise = 0; promise <= PROMISES; promise++) {
            String left = promise == 0 ? termsOf(document) : promiseOf(document, promise);
            List<String> quoted = new ArrayList<>(quotedOf(promise));
            // A sentence may stand within another one, which has to be looked for first.
            quoted.sort((p, q) -> q.length() - p.length());
            for (String sentence : quoted) {
                Check.same("section " + promise + " says: " + sentence, left.contains(sentence), true);
                left = left.replace(sentence, "");
            }
            Check.same("section " + promise + " without what is tested", left.strip(), "");
        }
    }

    private static String termsOf(String document) {
        String text = between(document, "\n## Terms\n", "\n## ").replaceAll("(?m)^Ahead of the calls .* the interface says: .*$", "");
        for (String title : TITLES) {
            text = text.replaceAll("(?m)^" + title, "");
        }
        return inOneLine(text);
    }

    /** The sentences of a promise without its heading, its signature and the parameters that name no number. */
    private static String promiseOf(String document, int promise) {
        String text = between(document, "\n## Promise " + promise + ": ", "\n## ");
        text = text.substring(text.indexOf('\n')).replaceAll("(?m)^`[^`]*`: ", "").replaceAll("(?m)^- `\\w+`: [^\\d\n]*$", "");
        return inOneLine(text);
    }

    private static String between(String text, String begin, String end) {
        int from = text.indexOf(begin);
        Check.same("the document has" + begin, from >= 0, true);
        int to = text.indexOf(end, from + begin.length());
        return text.substring(from + begin.length(), to < 0 ? text.length() : to);
    }

    private static String inOneLine(String text) {
        return text.replaceAll("\\s+", " ");
    }
}
