import java.io.IOException;
import java.nio.file.Files;
import java.nio.file.Path;
import java.util.ArrayList;
import java.util.List;

/**
 * The document's own words beside what is tested of them: each test begins with the sentence
 * that it is of, and at the end there must be no word of the document without a test.
 */
final class Sentence {
    /** The section of the terms; the others are the promises, by their numbers. */
    static final int TERMS = 0;
    private static final int PROMISES = 41;

    private static String current = "";
    private static final List<List<String>> quoted = new ArrayList<>();

    static {
        for (int k = 0; k <= PROMISES; k++) {
            quoted.add(new ArrayList<>());
        }
    }

    private Sentence() {
    }

    /** What is due from now on is due by these words. */
    static void says(int section, String words) {
        current = (section == TERMS ? "terms" : "promise " + section) + " \"" + words + "\"";
        quoted.get(section).add(words);
    }

    static void due(String what, long got, long want) {
        Checks.due(current + ": " + what, got, want);
    }

    /** Every quotation stands in its section, and every word of a section in a quotation. */
    static void endOfTheDocument() throws IOException {
        String document = Files.readString(Path.of("../shared/DOC.md"));
        for (int k = 0; k <= PROMISES; k++) {
            current = k == TERMS ? "terms" : "promise " + k;
            lookAt(textOf(document, k), quoted.get(k));
        }
    }

    private static void lookAt(String text, List<String> quotations) {
        boolean[] tested = new boolean[text.length()];
        for (String words : quotations) {
            int at = text.indexOf(words);
            due("the document says " + words, at >= 0 ? 1 : 0, 1);
            for (; at >= 0; at = text.indexOf(words, at + 1)) {
                for (int i = at; i < at + words.length(); i++) {
                    tested[i] = true;
                }
            }
        }
        StringBuilder left = new StringBuilder();
        for (int i = 0; i < text.length(); i++) {
            if (!tested[i] && text.charAt(i) != ' ') {
                left.append(text.charAt(i));
            }
        }
        due("not tested: " + left, left.length(), 0);
    }

    /** A section without its heading, the calls' forms, and all that only sets it out. */
    private static String textOf(String document, int section) {
        String heading = section == TERMS ? "## Terms\n" : "## Promise " + section + ": ";
        int from = document.indexOf('\n', document.indexOf(heading));
        String text = document.substring(from, document.indexOf("\n## ", from));
        return text.replaceAll("(?m)^Ahead of the calls .*$", "").replaceAll("(?m)^```.*$", "")
            .replaceAll("======== [0-9] ", "").replaceAll("(?m)^`[^`]*`: ", "").replaceAll("\\s+", " ").strip();
    }
}
