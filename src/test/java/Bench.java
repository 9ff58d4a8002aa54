import java.nio.charset.StandardCharsets;
import java.util.Arrays;

/** Counts the answers that are not the due ones, and tells texts to an object. */
final class Bench {
    private static final int MOST_SHOWN = 40;
    private int answers;
    private int wrong;

    void due(String call, long got, long want) {
        answers++;
        if (got != want) {
            wrong++;
            if (wrong <= MOST_SHOWN) {
                System.out.println(call + " answered " + got + ", due is " + want);
            }
        }
    }

    void due(String call, boolean got, boolean want) {
        due(call, got ? 1 : 0, want ? 1 : 0);
    }

    /** The answers of one call for what = from, from + 1 .. */
    void row(String call, long[] got, long... want) {
        answers++;
        if (!Arrays.equals(got, want)) {
            wrong++;
            System.out.println(call + " answered " + Arrays.toString(got) + ", due is " + Arrays.toString(want));
        }
    }

    void finish() {
        System.out.println(answers + " answers, " + wrong + " not as due");
        if (wrong != 0 || answers == 0) {
            System.exit(1);
        }
    }

    static void feed(ReedOracles x, byte[] bytes) {
        if (bytes.length == 0) {
            return;
        }
        int before = 0;
        for (int at = 0; at < bytes.length; at += 20) {
            byte[] part = Arrays.copyOfRange(bytes, at, at + 20);
            int[] words = new int[5];
            for (int i = 0; i < 20; i++) {
                words[i / 4] = words[i / 4] << 8 | part[i] & 255;
            }
            before = x.feed(words[0], words[1], words[2], words[3], words[4]);
        }
        int over = (20 - bytes.length % 20) % 20;
        x.end(before - over);
    }

    static int tell(ReedOracles x, int sort, int at, String text) {
        x.end(0);
        feed(x, text.getBytes(StandardCharsets.ISO_8859_1));
        return x.text(sort, at);
    }

    /** A new object with one duchy. */
    static ReedOracles duchy(String text) {
        ReedOracles x = new ReedOracles();
        if (tell(x, 0, ReedOracles.NONE, text) != 0) {
            throw new IllegalStateException("fault " + x.fault(0) + " at " + x.fault(1) + ": " + text);
        }
        return x;
    }

    /** A new object with one duchy and one year, or one log. */
    static ReedOracles duchyAnd(String duchy, int sort, String text) {
        ReedOracles x = duchy(duchy);
        if (tell(x, sort, ReedOracles.NONE, text) != 0) {
            throw new IllegalStateException("fault " + x.fault(0) + " at " + x.fault(1) + ": " + text);
        }
        return x;
    }
}
