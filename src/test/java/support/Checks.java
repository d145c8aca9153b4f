import java.nio.charset.StandardCharsets;
import java.util.Arrays;

/** What all tests share: counting wrong answers, and feeding texts. */
final class Checks {
    interface Call {
        long answer();
    }

    private static final int SHOWN_AT_MOST = 40;
    private int wrong;
    private int made;
    private String about = "";

    /** What the answers from here on are about; it is told with each wrong one. */
    void begin(String words) {
        about = "[" + words + "] ";
    }

    int countMade() {
        return made;
    }

    void due(String call, long got, long want) {
        made++;
        if (got != want) {
            fail(call + " answered " + got + ", due is " + want);
        }
    }

    void dueThrow(String call, Class<? extends RuntimeException> want, Call made) {
        due(call + " is " + want.getSimpleName(), outcome(made).equals(want.getName()) ? 1 : 0, 1);
    }

    /** The answer of a call in text, or the name of what it throws. */
    static String outcome(Call call) {
        try {
            return Long.toString(call.answer());
        } catch (RuntimeException e) {
            return e.getClass().getName();
        }
    }

    void fail(String text) {
        wrong++;
        if (wrong <= SHOWN_AT_MOST) {
            System.out.println(about + text);
        }
    }

    /** Ends the program, with 1 if there was a wrong answer. */
    void finish() {
        System.out.println(wrong == 0 ? made + " answers are as due" : wrong + " answers are not as due");
        System.exit(wrong == 0 ? 0 : 1);
    }

    /** Makes the text all that the tape has. */
    static void putOnTape(ReflectionReducer x, String text) {
        x.end(0);
        byte[] bytes = text.getBytes(StandardCharsets.ISO_8859_1);
        byte[] filled = Arrays.copyOf(bytes, (bytes.length + 19) / 20 * 20);
        for (int i = 0; i < filled.length; i += 20) {
            x.feed(four(filled, i), four(filled, i + 4), four(filled, i + 8), four(filled, i + 12), four(filled, i + 16));
        }
        x.end(bytes.length);
    }

    static int four(byte[] b, int i) {
        return (b[i] & 255) << 24 | (b[i + 1] & 255) << 16 | (b[i + 2] & 255) << 8 | b[i + 3] & 255;
    }

    static int readSymbol(ReflectionReducer x, String text) {
        putOnTape(x, text);
        return x.symbol();
    }

    static int readFile(ReflectionReducer x, String text) {
        putOnTape(x, text);
        return x.file();
    }

    /** A row of a file, with its numbers in hundredths. */
    static String line(int h, int k, int l, int intensity, int sigma) {
        return String.format("%4d%4d%4d%8s%8s\n", h, k, l, hundredths(intensity), hundredths(sigma));
    }

    private static String hundredths(int n) {
        return String.format("%s%d.%02d", n < 0 ? "-" : "", Math.abs(n) / 100, Math.abs(n) % 100);
    }
}
