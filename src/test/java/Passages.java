import java.io.IOException;
import java.nio.charset.StandardCharsets;
import java.nio.file.Files;
import java.nio.file.Path;

/** A part of the document, read passage by passage with nothing left out; each passage's answers stand behind it. */
final class Passages {
    private final Due due;
    private final String words;
    private int at = 0;
    private String passage = "";

    /** The part goes from one line to the line ahead of another; both must be there. */
    Passages(String test, String[] args, String firstLine, String lineBehind) throws IOException {
        due = new Due(test);
        String document = wholeDocument(args);
        int from = document.indexOf(firstLine + "\n");
        int to = document.indexOf("\n" + lineBehind + "\n");
        due.due("the document has " + firstLine + " and " + lineBehind, from >= 0 && from < to);
        words = from >= 0 && from < to ? wordsOf(document.substring(from, to)) : "";
    }

    static String wholeDocument(String[] args) throws IOException {
        Path root = Path.of(args.length > 0 ? args[0] : ".");
        return Files.readString(root.resolve("../shared/DOC.md"), StandardCharsets.ISO_8859_1);
    }

    /** Without headings, fences and the public face, which is looked at by itself. */
    private static String wordsOf(String part) {
        String withoutFace = part.replaceAll("(?s)```java.*?```", "");
        return withoutFace.replaceAll("(?m)^(#|```).*$", "").replaceAll("\\s+", " ").strip();
    }

    /** These words come next; all answers till the next words are due by them. */
    void reads(String quote) {
        passage = "\"" + quote + "\": ";
        boolean next = words.startsWith(quote, at);
        String there = words.substring(at, Math.min(words.length(), at + 60));
        due.due(passage + "comes next in the document, not \"" + there + "\"", next);
        if (next) {
            at += quote.length();
            at += words.startsWith(" ", at) ? 1 : 0;
        }
    }

    void due(String call, long got, long want) {
        due.due(passage + call, got, want);
    }

    void due(String what, boolean holds) {
        due.due(passage + what, holds);
    }

    /** The row of answers, one by one. */
    void due(String calls, int[] got, int... want) {
        due(calls + ": how many", got.length, want.length);
        for (int i = 0; i < Math.min(got.length, want.length); i++) {
            due(calls + ", answer " + i, got[i], want[i]);
        }
    }

    /** What house() answers to this text on an object of its own. */
    void readsAs(String text, int want) {
        due("house() of '" + text + "'", Due.tell(new DoorCases(), text), want);
    }

    void end() {
        due.due("nothing of the document is left out: \"" + words.substring(at) + "\"", at == words.length());
        due.end();
    }
}
