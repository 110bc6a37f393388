import java.nio.charset.StandardCharsets;
import java.util.Arrays;

/** What the tests share: comparing answers, and bringing a text of wishes onto the tape. */
final class Check {
    static final int NONE = GuideDesk.NONE;
    static final int LEAST = Integer.MIN_VALUE;
    static final int GREATEST = Integer.MAX_VALUE;
    private static int asked = 0;
    private static int wrong = 0;
    private static String heading = "";

    private Check() {
    }

    /** The answers from here on are what these words of the document ask: a wrong one is printed with them. */
    static void promise(int number, String words) {
        heading = "promise " + number + " \"" + words + "\": ";
    }

    static void due(String what, long want, long got) {
        asked++;
        if (got != want) {
            wrong++;
            System.out.println(heading + what + " answered " + got + ", due is " + want);
        }
    }

    static void due(String what, boolean want, boolean got) {
        due(what, want ? 1 : 0, got ? 1 : 0);
    }

    /** Ends the test: with exit code 1 if an answer was not the one due. */
    static void finish() {
        System.out.println(asked + " answers, " + wrong + " wrong");
        if (wrong > 0 || asked == 0) {
            System.exit(1);
        }
    }

    static byte[] bytes(String text) {
        return text.getBytes(StandardCharsets.ISO_8859_1);
    }

    /** Brings exactly these bytes behind the tape: full rows of twenty, and what is too much goes back. */
    static void type(GuideDesk desk, byte[] text) {
        byte[] rows = Arrays.copyOf(text, (text.length + 19) / 20 * 20);
        for (int i = 0; i < rows.length; i += 20) {
            desk.feed(word(rows, i), word(rows, i + 4), word(rows, i + 8), word(rows, i + 12), word(rows, i + 16));
        }
        desk.back(rows.length - text.length);
    }

    static int read(GuideDesk desk, String text) {
        type(desk, bytes(text));
        return desk.read();
    }

    /** The text's fault and its place are these. */
    static void fault(String text, int number, int place) {
        GuideDesk desk = new GuideDesk();
        String shown = text.length() > 60 ? text.substring(0, 60) + ".." : text;
        due("read \"" + shown + "\"", number, read(desk, text));
        due("place \"" + shown + "\"", place, desk.place());
        due("tape \"" + shown + "\"", 0, desk.count(9));
    }

    static int word(byte[] bytes, int at) {
        return (bytes[at] & 255) << 24 | (bytes[at + 1] & 255) << 16 | (bytes[at + 2] & 255) << 8 | bytes[at + 3] & 255;
    }
}
