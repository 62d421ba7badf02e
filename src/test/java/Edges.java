import java.io.IOException;
import java.nio.charset.StandardCharsets;
import java.nio.file.Files;
import java.nio.file.Path;
import java.util.Arrays;

/**
 * Tests told sentence by sentence: each stands behind the words of ../shared/DOC.md that it holds to, one section of
 * the document behind another. Words that don't stand in their section count as wrong, as do words of a section that
 * no test was told behind, and words behind which nothing was asked.
 */
final class Edges {
    static final int MIN = Integer.MIN_VALUE;
    static final int MAX = Integer.MAX_VALUE;

    private final Check check;
    private final String document;
    private String head = "";
    private String section = "";
    private boolean[] said = {};
    private String words = "";
    private int asked = 1;

    Edges(String name) throws IOException {
        check = new Check(name);
        String text = Files.readString(Path.of("../shared/DOC.md"), StandardCharsets.ISO_8859_1);
        document = plain(text.replaceAll("```[a-z]*", " "));
    }

    private static String plain(String text) {
        return text.replaceAll("\\s+", " ").trim();
    }

    /** Part n of the terms. */
    void terms(int n) {
        begin("Terms " + n, n == 1 ? "## Terms" : "==== " + n + ".", n == 4 ? "## Promise 1:" : "==== " + (n + 1) + ".");
    }

    /** The promise of this heading, what stands in its signature left out. */
    void promise(int n, String heading) {
        String next = n == 49 ? "## Not promised" : "## Promise " + (n + 1) + ":";
        begin("Promise " + n, "## Promise " + n + ": " + heading, next);
        int behind = section.indexOf("`: ") + 3;
        Arrays.fill(said, 0, Math.min(behind, said.length), true);
    }

    private void begin(String name, String from, String to) {
        finish();
        head = name;
        int start = document.indexOf(from);
        int end = document.indexOf(to, start);
        check.due(name + " stands in the document", start >= 0 && end > start, true);
        section = start >= 0 && end > start ? document.substring(start + from.length(), end) : "";
        said = new boolean[section.length()];
    }

    /** The words that the next tests hold to. */
    void says(String quote) {
        check.due(head + " has a test for: " + words, asked > 0, true);
        words = quote;
        asked = 0;
        String sought = plain(quote);
        int at = section.indexOf(sought);
        check.due(head + " says: " + quote, at >= 0, true);
        for (; at >= 0; at = section.indexOf(sought, at + 1)) {
            Arrays.fill(said, at, at + sought.length(), true);
        }
    }

    /** No word of the section is left without a test. */
    private void finish() {
        check.due(head + " has a test for: " + words, asked > 0, true);
        StringBuilder left = new StringBuilder();
        for (int i = 0; i < said.length; i++) {
            left.append(said[i] ? ' ' : section.charAt(i));
        }
        String unsaid = plain(left.toString());
        if (unsaid.matches(".*[A-Za-z0-9].*")) {
            check.due(head + " has no test for: " + unsaid, false, true);
        }
    }

    void end() {
        finish();
        check.end();
    }

    void due(String call, long got, long want) {
        asked++;
        check.due(head + " [" + words + "] " + call, got, want);
    }

    void due(String call, boolean got, boolean want) {
        due(call, got ? 1 : 0, want ? 1 : 0);
    }

    void same(String call, String got, String want) {
        asked++;
        check.due(head + " [" + words + "] " + call + " is\n  " + got + "\n  and was\n  " + want + "\n", got.equals(want), true);
    }

    /** The text is taken and has so many lines. */
    TwoLevel fine(String text, int lines) {
        TwoLevel x = new TwoLevel();
        due("text " + text, Check.tell(x, text), lines);
        due("fault(0) of " + text, x.fault(0), 0);
        due("fault(1) of " + text, x.fault(1), -1);
        return x;
    }

    /** The text is refused with this fault at ^, which isn't of the text. */
    void faulty(int fault, String marked) {
        int place = marked.indexOf('^');
        String text = marked.substring(0, place) + marked.substring(place + 1);
        TwoLevel x = new TwoLevel();
        due("text " + text, Check.tell(x, text), -1);
        due("fault(0) of " + text, x.fault(0), fault);
        due("fault(1) of " + text, x.fault(1), place);
    }

    /** All that can be seen, in some hundred calls for a small text: two that are alike have the same one. */
    static String seen(TwoLevel x) {
        StringBuilder s = new StringBuilder("counts");
        for (int what = 0; what <= 11; what++) {
            s.append(' ').append(x.count(what));
        }
        s.append(" fault ").append(x.fault(0)).append(' ').append(x.fault(1));
        for (int kind = 0; kind < x.count(0); kind++) {
            s.append(" kind ").append(x.kind(kind, 0)).append(' ').append(x.kind(kind, 1));
            s.append(' ').append(x.amount(kind, 0)).append(' ').append(x.amount(kind, 1));
        }
        for (int deed = 0; deed < x.count(1); deed++) {
            s.append(" deed ").append(x.deed(deed, 0)).append(' ').append(x.deed(deed, 1));
            s.append(' ').append(x.deed(deed, 2)).append(' ').append(x.deed(deed, 3));
        }
        for (int i = 0; i < x.count(2); i++) {
            s.append(" done ").append(x.done(i, 3));
        }
        for (int twin = 0; twin < 2; twin++) {
            s.append(" twin ").append(x.twin(twin, 0)).append(' ').append(x.twin(twin, 1)).append(' ').append(x.twin(twin, 2));
        }
        return s.append(" who ").append(x.who()).append(" apart ").append(x.apart()).toString();
    }

    /** What the call answers, and that all that can be seen is behind it as it would be without it. */
    void refused(String call, Maker maker, Answer answer, long want) {
        TwoLevel x = maker.make();
        due(call, answer.of(x), want);
        same("what is seen behind " + call, seen(x), seen(maker.make()));
    }

    void refused(String call, String text, Answer answer, long want) {
        refused(call, () -> Check.told(text), answer, want);
    }

    interface Maker {
        TwoLevel make();
    }

    interface Answer {
        long of(TwoLevel x);
    }

    /** The numbers of the document from a seed on: the k-th one, 0 the first. */
    static int number(long seed, int k) {
        java.math.BigInteger last = java.math.BigInteger.valueOf(seed);
        for (int i = 0; i <= k; i++) {
            last = last.multiply(java.math.BigInteger.valueOf(1103515245)).add(java.math.BigInteger.valueOf(12345));
            last = last.mod(java.math.BigInteger.ONE.shiftLeft(31));
        }
        return last.divide(java.math.BigInteger.valueOf(65536)).intValue() % 100;
    }
}
