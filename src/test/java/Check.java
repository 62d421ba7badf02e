import java.nio.charset.StandardCharsets;
import java.util.Arrays;

/** What the tests share: telling a text to an object, and counting answers that are not as due. */
final class Check {
    private final String name;
    private int asked = 0;
    private int wrong = 0;

    Check(String name) {
        this.name = name;
    }

    void due(String call, long got, long want) {
        asked++;
        if (got != want) {
            wrong++;
            System.out.println(name + ": " + call + " answered " + got + ", due is " + want);
        }
    }

    void due(String call, boolean got, boolean want) {
        due(call, got ? 1 : 0, want ? 1 : 0);
    }

    /** Feeds the bytes, padded by blanks to whole calls; text() is then to be called with their own number. */
    static void feed(TwoLevel x, byte[] text) {
        byte[] padded = Arrays.copyOf(text, (text.length + 19) / 20 * 20);
        Arrays.fill(padded, text.length, padded.length, (byte) ' ');
        for (int i = 0; i < padded.length; i += 20) {
            x.feed(four(padded, i), four(padded, i + 4), four(padded, i + 8), four(padded, i + 12), four(padded, i + 16));
        }
    }

    private static int four(byte[] bytes, int at) {
        return (bytes[at] & 255) << 24 | (bytes[at + 1] & 255) << 16 | (bytes[at + 2] & 255) << 8 | bytes[at + 3] & 255;
    }

    static int tell(TwoLevel x, String text) {
        byte[] bytes = text.getBytes(StandardCharsets.ISO_8859_1);
        feed(x, bytes);
        return x.text(bytes.length);
    }

    static TwoLevel told(String text) {
        TwoLevel x = new TwoLevel();
        if (tell(x, text) < 0) {
            throw new IllegalStateException("a faulty text: " + text + " " + x.fault(0) + " at " + x.fault(1));
        }
        return x;
    }

    /** The text is refused with this fault at this place. */
    void faulty(String text, int fault, int place) {
        TwoLevel x = new TwoLevel();
        due("text " + text, tell(x, text), TwoLevel.NONE);
        due("fault(0) of " + text, x.fault(0), fault);
        due("fault(1) of " + text, x.fault(1), place);
    }

    /** The text is taken and has so many lines. */
    void fine(String text, int lines) {
        TwoLevel x = new TwoLevel();
        due("text " + text, tell(x, text), lines);
        due("fault(0) of " + text, x.fault(0), 0);
        due("fault(1) of " + text, x.fault(1), TwoLevel.NONE);
    }

    void end() {
        System.out.println(name + ": " + asked + " answers, " + wrong + " not as due");
        if (wrong != 0 || asked == 0) {
            System.exit(1);
        }
    }

    static int letters(String word) {
        int letters = 0;
        for (int i = 0; i < 6; i++) {
            letters = letters * 32 + (i < word.length() ? word.charAt(i) - 'a' + 1 : 0);
        }
        return letters;
    }
}
