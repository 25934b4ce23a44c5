import java.nio.charset.StandardCharsets;
import java.util.Arrays;
import java.util.NoSuchElementException;

/** What the tests by hand share: a town from a text, and answers that are held against what is due. */
final class Check {
    private static int wrong = 0;
    private static int looked = 0;

    private Check() {
    }

    static void is(int promise, String what, int got, int due) {
        looked++;
        if (got != due) {
            wrong++;
            System.out.println("promise " + promise + ": " + what + " answered " + got + ", due is " + due);
        }
    }

    static void is(int promise, String what, boolean got, boolean due) {
        is(promise, what, got ? 1 : 0, due ? 1 : 0);
    }

    /** Each of the calls must throw NoSuchElementException. */
    static void missing(int promise, Runnable... calls) {
        throwsEach(promise, NoSuchElementException.class, calls);
    }

    /** Each of the calls must throw IllegalArgumentException. */
    static void illegal(int promise, Runnable... calls) {
        throwsEach(promise, IllegalArgumentException.class, calls);
    }

    private static void throwsEach(int promise, Class<?> due, Runnable... calls) {
        for (int i = 0; i < calls.length; i++) {
            Class<?> got = null;
            try {
                calls[i].run();
            } catch (RuntimeException e) {
                got = e.getClass();
            }
            looked++;
            if (got != due) {
                wrong++;
                System.out.println("promise " + promise + ": wrong call " + (i + 1) + " of " + calls.length
                    + " threw " + got + ", due is " + due);
            }
        }
    }

    static void end() {
        System.out.println(looked + " answers, " + wrong + " of them not as due");
        if (wrong != 0) {
            System.exit(1);
        }
    }

    /** Feeds a text, blanks behind it, to a multiple of twenty bytes: its length. */
    static int feed(WivesQuarrels x, String text) {
        byte[] bytes = text.getBytes(StandardCharsets.ISO_8859_1);
        byte[] b = Arrays.copyOf(bytes, (bytes.length + 19) / 20 * 20);
        Arrays.fill(b, bytes.length, b.length, (byte) ' ');
        for (int i = 0; i < b.length; i += 20) {
            x.feed(four(b, i), four(b, i + 4), four(b, i + 8), four(b, i + 12), four(b, i + 16));
        }
        return bytes.length;
    }

    private static int four(byte[] b, int i) {
        return (b[i] & 255) << 24 | (b[i + 1] & 255) << 16 | (b[i + 2] & 255) << 8 | b[i + 3] & 255;
    }

    /** Reads another town into an object: 0, or the fault. */
    static int town(WivesQuarrels x, String text) {
        return x.town(feed(x, text));
    }

    /** A new object with this town, which must be without fault. */
    static WivesQuarrels of(String text) {
        WivesQuarrels x = new WivesQuarrels();
        is(3, "town of '" + text + "'", town(x, text), 0);
        return x;
    }
}
