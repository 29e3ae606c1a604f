import java.io.IOException;
import java.nio.charset.StandardCharsets;
import java.nio.file.Files;
import java.nio.file.Path;
import java.util.function.Consumer;
import java.util.function.ToLongFunction;

/** Tests by sentences of the document: each is quoted, and the quote must stand there word by word. */
final class Edges {
    static final int BAD = DoorCases.BAD;
    static final int STATE = DoorCases.STATE;
    static final int FULL = DoorCases.FULL;
    static final int NONE = DoorCases.NONE;
    static final int NO = DoorCases.NO;
    static final int LEAST = Integer.MIN_VALUE;
    static final int GREATEST = Integer.MAX_VALUE;

    private final Due due;
    private final String document;
    private String sentence = "";

    Edges(String test, String[] args) throws IOException {
        due = new Due(test);
        Path root = Path.of(args.length > 0 ? args[0] : ".");
        String words = Files.readString(root.resolve("../shared/DOC.md"), StandardCharsets.ISO_8859_1);
        document = words.replaceAll("\\s+", " ");
    }

    /** All answers till the next quote are due by this one. */
    void sentence(String quote) {
        sentence = "\"" + quote + "\": ";
        due.due(sentence + "stands in the document", document.contains(quote));
    }

    void due(String call, long got, long want) {
        due.due(sentence + call, got, want);
    }

    void due(String what, boolean holds) {
        due.due(sentence + what, holds);
    }

    static DoorCases moment(String text, Consumer<DoorCases> ahead) {
        DoorCases x = Due.told(text);
        ahead.accept(x);
        return x;
    }

    /** The call answers so, and everything is as it is where the call was not made. */
    void unchanged(String call, String text, Consumer<DoorCases> ahead, ToLongFunction<DoorCases> made, long want) {
        DoorCases with = moment(text, ahead);
        due(call, made.applyAsLong(with), want);
        due(call + " changes nothing", wholeOf(with), wholeOf(moment(text, ahead)));
    }

    /** The same where so many calls came ahead that fewer are left to look with. */
    void unchangedLate(String call, String text, Consumer<DoorCases> ahead, ToLongFunction<DoorCases> made, long want) {
        DoorCases with = moment(text, ahead);
        due(call, made.applyAsLong(with), want);
        due(call + " changes nothing", briefOf(with), briefOf(moment(text, ahead)));
    }

    void due(String what, String got, String want) {
        due(what + " (" + got + " for " + want + ")", got.equals(want));
    }

    /** Looks behind all that can be undone and at both images too; the object is used up by it. */
    private static String wholeOf(DoorCases x) {
        StringBuilder all = new StringBuilder(Due.look(x));
        all.append(" ways ").append(x.loved()).append(' ').append(x.country()).append(' ').append(x.round(-1));
        all.append(' ').append(x.next()).append(' ').append(x.questions());
        for (int i = 0; i < 10; i++) {
            all.append(" undo ").append(x.undo()).append(' ').append(momentOf(x));
        }
        for (int image = 0; image < 2; image++) {
            all.append(" back ").append(x.back(image)).append(' ').append(momentOf(x));
        }
        all.append(" text ").append(x.house());
        for (int what = 0; what < 8; what++) {
            all.append(' ').append(x.count(what));
        }
        return all.toString();
    }

    private static String briefOf(DoorCases x) {
        StringBuilder all = new StringBuilder(Due.look(x));
        for (int i = 0; i < 10; i++) {
            all.append(" undo ").append(x.undo()).append(' ').append(x.now(0)).append(' ').append(x.now(2));
        }
        return all.toString();
    }

    /** What images keep. */
    static String momentOf(DoorCases x) {
        StringBuilder all = new StringBuilder();
        all.append(x.now(0)).append(' ').append(x.now(1)).append(' ').append(x.now(2)).append(' ');
        all.append(x.now(3)).append(' ').append(x.now(5));
        for (int r = 0; r < x.count(0); r++) {
            all.append(' ').append(x.room(r, 0)).append(' ').append(x.room(r, 4));
        }
        return all.toString();
    }

    void end() {
        due.end();
    }
}
