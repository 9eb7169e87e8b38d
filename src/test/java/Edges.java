import java.io.IOException;
import java.nio.file.Files;
import java.nio.file.Path;

/** Answers at the edges that one sentence of the document names, with that sentence's own words. */
final class Edges {
    /** What is no cell and no courtier in any court; the last ones would be cell 0, were only five bits looked at. */
    static final int[] FAR_OFF = {-1, 12, 31, 32, 64, 1000, -32, Integer.MIN_VALUE, Integer.MAX_VALUE};
    private static final Path DOCUMENT = Path.of("../shared/DOC.md");

    private final Check check;
    private final String document;
    private String sentence = "";
    private int sentences;

    Edges(String test) throws IOException {
        check = new Check(test);
        document = oneLine(Files.readString(DOCUMENT));
    }

    private static String oneLine(String text) {
        return text.replaceAll("\\s+", " ");
    }

    /** All that is due from here on is due by these words, which must stand in the document. */
    void says(String words) {
        sentence = words;
        sentences++;
        check.due("the document has the words: " + words, document.contains(oneLine(words)), true);
    }

    void due(String what, long got, long want) {
        check.due("[" + sentence + "] " + what, got, want);
    }

    void due(String what, boolean got, boolean want) {
        check.due("[" + sentence + "] " + what, got, want);
    }

    void due(String what, String got, String want) {
        due(what + ": " + got + " for " + want, got.equals(want), true);
    }

    void end() {
        System.out.println(sentences + " sentences of the document");
        check.end();
    }

    ShakingCourt court(String text) {
        ShakingCourt x = new ShakingCourt();
        due("court " + text, Check.tellCourt(x, text), 0);
        return x;
    }

    /** A court of such a text, all of whose cells shake by so much. */
    ShakingCourt shaking(String text, int much) {
        ShakingCourt x = court(text);
        for (int i = 0; i < x.count(0); i++) {
            raise(x, i, much);
        }
        return x;
    }

    static void raise(ShakingCourt x, int cell, int much) {
        for (int left = much; left > 0; left -= 20) {
            x.touch(cell, Math.min(20, left));
        }
    }

    void reign(ShakingCourt x, String text) {
        due("reign " + text, Check.tellReign(x, text), 0);
    }

    /** A sign | stands ahead of the token that is wrong; what is wrong behind it does not matter. */
    void courtFault(String marked, int kind) {
        for (String behind : wrongBehind(marked, "; cells 2;", " 99 cells #")) {
            due("court " + marked + behind, Check.tellCourt(new ShakingCourt(), unmarked(marked) + behind), faultAt(marked, kind));
        }
    }

    void reignFault(String court, String marked, int kind) {
        for (String behind : wrongBehind(marked, "; touch 12 0;", " 99 turn #")) {
            due("reign " + marked + behind, Check.tellReign(court(court), unmarked(marked) + behind), faultAt(marked, kind));
        }
    }

    // Behind a fault at the end there is nothing.
    private static String[] wrongBehind(String marked, String line, String tokens) {
        boolean atEnd = marked.endsWith("|");
        return atEnd ? new String[] {""} : new String[] {"", line, tokens};
    }

    private static String unmarked(String marked) {
        int place = marked.indexOf('|');
        return marked.substring(0, place) + marked.substring(place + 1);
    }

    private static int faultAt(String marked, int kind) {
        return kind + 16 * marked.indexOf('|');
    }

    /** What the one courtier of heart 7 does in the third beat, of heat 3, by a law of what is read. */
    int read(String law) {
        ShakingCourt x = court("heat 3;courtier a plain at 0 loyal 7;reads " + law + ";");
        x.beat();
        x.beat();
        return x.beat();
    }

    /** All that undoing brings back, and how much was felt. */
    static String state(ShakingCourt x) {
        StringBuilder text = new StringBuilder();
        int cells = x.count(0);
        int men = x.count(1);
        for (int what = 2; what <= 9; what++) {
            text.append(x.count(what)).append(' ');
        }
        for (int cell = 0; cell < cells; cell++) {
            text.append("c").append(x.shake(cell)).append(' ');
        }
        for (int i = 0; i < men; i++) {
            text.append("m").append(x.courtier(i, 1)).append(' ').append(x.courtier(i, 3)).append(' ');
        }
        return text.toString();
    }

    /** All that can be seen of an object, but for the tape. */
    static String seen(ShakingCourt x) {
        StringBuilder text = new StringBuilder();
        for (int what = 0; what <= 10; what++) {
            text.append(x.count(what)).append(' ');
        }
        for (int cell = 0; cell < x.count(0); cell++) {
            text.append("c").append(x.shake(cell)).append(' ').append(x.later(cell, 1)).append(' ');
        }
        for (int i = 0; i < x.count(1); i++) {
            for (int what = 0; what < 4; what++) {
                text.append("m").append(x.courtier(i, what)).append(' ');
            }
            text.append(x.total(i, 3)).append(' ');
        }
        text.append("j").append(x.judged(0)).append(' ').append(x.judged(1)).append(' ').append(x.judged(2));
        return text.append(" w").append(x.ways(0)).append(' ').append(x.ways(1)).toString();
    }
}
