import java.nio.charset.StandardCharsets;

/** What the tests share: the answers that are due, and how a text comes into an object. */
final class Due {
    static final int BAD = -1, NO = -2, FULL = -3, NONE = -4;
    static final int LEAST = Integer.MIN_VALUE, GREATEST = Integer.MAX_VALUE;
    static final int BAD_LOT = -100;
    static final long NO_GAIN = Long.MIN_VALUE, BAD_GAIN = Long.MIN_VALUE + 1;
    static final long PARTS = 100000000000000L;

    private static int wrong = 0;
    private static int looked = 0;
    private static String sentence = "";

    private Due() {
    }

    /** The sentence of the document that the next answers belong to. */
    static void sentence(int promise, String words) {
        sentence = "promise " + promise + " (" + words + ")";
    }

    static void is(String call, long got, long want) {
        looked++;
        if (got != want) {
            wrong++;
            System.out.println(sentence + ": " + call + " answered " + got + ", due is " + want);
        }
    }

    static void is(int promise, String call, long got, long want) {
        sentence = "promise " + promise;
        is(call, got, want);
    }

    /** Many answers at once, put into a text. */
    static void same(String what, String got, String want) {
        looked++;
        if (!got.equals(want)) {
            wrong++;
            System.out.println(sentence + ": " + what + ": due is\n    " + want + "\nanswered was\n    " + got);
        }
    }

    static void end() {
        System.out.println(looked + " answers looked at, " + wrong + " of them not as due");
        if (wrong != 0) {
            System.exit(1);
        }
    }

    /** Bytes as they come into one write, the highest first. */
    static long packed(String text) {
        long v = 0;
        for (byte b : text.getBytes(StandardCharsets.ISO_8859_1)) {
            v = v << 8 | b & 0xff;
        }
        return v;
    }

    static int write(BorderGuards x, String text) {
        int length = x.count(5);
        for (int at = 0; at < text.length(); at += 8) {
            String piece = text.substring(at, Math.min(text.length(), at + 8));
            length = x.write(piece.length(), packed(piece));
        }
        return length;
    }

    static BorderGuards written(String text) {
        BorderGuards x = new BorderGuards();
        write(x, text);
        return x;
    }

    static int faultOf(String text) {
        return written(text).fault();
    }

    /** A new object with this land. */
    static BorderGuards land(String text) {
        BorderGuards x = new BorderGuards();
        relay(x, text);
        return x;
    }

    static int relay(BorderGuards x, String text) {
        x.wipe();
        write(x, text);
        int paths = x.lay();
        if (paths < 0) {
            is(5, "lay of " + text, paths, 0);
        }
        return paths;
    }

    static String times(int n, String text) {
        return text.repeat(n);
    }

    /** Paths side by side, all from 0 to 7, that bear so much; what else is told of each stands behind. */
    static String sideBySide(String rest, int... loads) {
        StringBuilder text = new StringBuilder();
        for (int load : loads) {
            text.append("p0,7,").append(load).append(",").append(rest).append(";");
        }
        return text.toString();
    }
}
