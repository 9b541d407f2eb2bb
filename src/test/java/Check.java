import java.nio.charset.StandardCharsets;
import java.util.Arrays;

/** What the tests share: feeding texts, comparing answers, the exit code. */
final class Check {
    private static int wrong = 0;
    private static int asked = 0;

    private Check() {
    }

    /** The answer of a call, beside the one that is due. */
    static void same(String call, long got, long due) {
        asked++;
        if (got != due) {
            wrong++;
            System.out.println(call + " answered " + got + ", due is " + due);
        }
    }

    static void isTrue(String what, boolean holds) {
        same(what, holds ? 1 : 0, 1);
    }

    /** Puts a text on the tape, which is empty. */
    static void tape(PaymentRuns runs, String text) {
        tape(runs, text.getBytes(StandardCharsets.ISO_8859_1));
    }

    static void tape(PaymentRuns runs, byte[] text) {
        byte[] padded = Arrays.copyOf(text, (text.length + 19) / 20 * 20);
        for (int i = 0; i < padded.length; i += 20) {
            runs.feed(four(padded, i), four(padded, i + 4), four(padded, i + 8), four(padded, i + 12),
                    four(padded, i + 16));
        }
        runs.end(text.length);
    }

    private static int four(byte[] b, int i) {
        return (b[i] & 255) << 24 | (b[i + 1] & 255) << 16 | (b[i + 2] & 255) << 8 | b[i + 3] & 255;
    }

    static PaymentRuns desk(String text) {
        PaymentRuns runs = new PaymentRuns();
        tape(runs, text);
        isTrue("desk() of " + text, runs.desk() >= 0);
        return runs;
    }

    /** A slot has a row of these numbers, 8 bytes each. */
    static void row(PaymentRuns runs, int slot, long... numbers) {
        runs.row(slot, 3, numbers.length);
        for (int i = 0; i < numbers.length; i++) {
            runs.write(slot, i, numbers[i]);
        }
    }

    static void end() {
        System.out.println(asked + " answers asked, " + wrong + " not as due");
        if (wrong != 0 || asked == 0) {
            System.exit(1);
        }
    }
}
