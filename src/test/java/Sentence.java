import java.io.IOException;
import java.nio.file.Files;
import java.nio.file.Path;
import java.util.BitSet;

/**
 * The sentences of the document that tests name, each with the number of the promise that it belongs to or that rests
 * on it. At the end all of them must stand in the document, and no word of it may stand in none of them.
 */
final class Sentence {
    private static final Path DOCUMENT = Path.of("../shared/DOC.md");
    private static final int PROMISES = 19;
    /** What stands under each promise's heading; at 0, what stands ahead of them. */
    private static final String[] PARTS = new String[PROMISES + 1];
    private static final BitSet[] NAMED = new BitSet[PROMISES + 1];
    private static boolean isRead;
    private static int answersBefore;
    private static String latest;

    private Sentence() {
    }

    /** Without a document beside it the tests run all the same; only what they quote can't be looked up. */
    static void readDocument() throws IOException {
        if (!Files.exists(DOCUMENT)) {
            System.out.println(DOCUMENT + " is not there: what is quoted was not looked up");
            return;
        }
        String text = Files.readString(DOCUMENT);
        String told = between(text, "## What it is", "## Not promised")
            .replaceAll("(?s)```java.*?```", " ")
            .replaceAll("```(text)?", " ")
            .replaceAll("`[^`]*`:", " ")
            .replaceAll("={8} \\d", " ");
        for (int i = 0; i <= PROMISES; i++) {
            String start = i == 0 ? "" : "## Promise " + i + ":";
            String end = i == PROMISES ? "" : "## Promise " + (i + 1) + ":";
            String part = between(told, start, end).replaceAll("(?m)^##.*$", " ");
            if (i > 0) part = part.replaceFirst("^.*", " ");
            PARTS[i] = part.replaceAll("\\s+", " ").trim();
            NAMED[i] = new BitSet();
        }
        isRead = true;
    }

    private static String between(String text, String start, String end) {
        int from = text.indexOf(start) + start.length();
        int to = end.isEmpty() ? text.length() : text.indexOf(end, from);
        return text.substring(from, to < 0 ? text.length() : to);
    }

    /** What follows, up to the next sentence, is the test of this one. */
    static void of(int promise, String words) {
        endLatest();
        latest = "promise " + promise + ", \"" + words + "\"";
        Due.under(latest + ": ");
        if (!isRead) return;
        boolean found = name(promise, words) || name(0, words);
        Due.holds("the sentence stands in the document", found);
    }

    private static boolean name(int part, String words) {
        int at = PARTS[part].indexOf(words);
        if (at < 0) return false;
        NAMED[part].set(at, at + words.length());
        return true;
    }

    private static void endLatest() {
        if (latest != null && Due.asked() <= answersBefore + 1) Due.holds("the sentence has a test", false);
        answersBefore = Due.asked();
    }

    static void endAll() {
        endLatest();
        Due.under("");
        if (!isRead) return;
        for (int i = 0; i <= PROMISES; i++) {
            String left = leftOut(i);
            Due.holds("part " + i + " of the document, without a test: " + left, left.isEmpty());
        }
    }

    private static String leftOut(int part) {
        StringBuilder left = new StringBuilder();
        for (int i = 0; i < PARTS[part].length(); i++) {
            char c = PARTS[part].charAt(i);
            if (!NAMED[part].get(i) && Character.isLetterOrDigit(c)) left.append(c);
            else if (left.length() > 0 && left.charAt(left.length() - 1) != ' ') left.append(' ');
        }
        return left.toString().trim();
    }
}
