import java.nio.charset.StandardCharsets;
import java.util.Arrays;

/** What the tests share: answers compared with those that are due, and texts put on the TAPE. */
final class Check {
    private static int wrong = 0;
    private static int asked = 0;

    private Check() {
    }

    static void due(String call, long got, long want) {
        asked++;
        if (got != want) {
            wrong++;
            System.out.println(call + " answered " + got + ", due is " + want);
        }
    }

    static void so(String what, boolean is) {
        due(what, is ? 1 : 0, 1);
    }

    /** A refusal: the answer, and the status. */
    static void refused(String call, StatueRelief x, long got, int by) {
        due(call, got, by);
        due(call + ", status", x.status(), by);
    }

    static void tape(StatueRelief x, String text) {
        tape(x, text.getBytes(StandardCharsets.ISO_8859_1));
    }

    static void tape(StatueRelief x, byte[] bytes) {
        x.end(0);
        for (int at = 0; at < bytes.length; at += 20) {
            byte[] b = Arrays.copyOfRange(bytes, at, at + 20);
            x.feed(four(b, 0), four(b, 4), four(b, 8), four(b, 12), four(b, 16));
        }
        x.end(bytes.length);
    }

    private static int four(byte[] b, int at) {
        return (b[at] & 255) << 24 | (b[at + 1] & 255) << 16 | (b[at + 2] & 255) << 8 | b[at + 3] & 255;
    }

    static int law(StatueRelief x, String text) {
        tape(x, text);
        return x.law();
    }

    static int orders(StatueRelief x, String text) {
        tape(x, text);
        return x.orders();
    }

    /** A LAW that is read and in FORCE. */
    static void inForce(StatueRelief x, String text) {
        int law = law(x, text);
        so("law " + text, law >= 0);
        x.force(law);
    }

    /** A new object with MEN, each told by his HOLD and his LOOK. */
    static StatueRelief men(int... holdsAndLooks) {
        StatueRelief x = new StatueRelief();
        for (int i = 0; i + 1 < holdsAndLooks.length; i += 2) {
            x.man(holdsAndLooks[i], holdsAndLooks[i + 1]);
        }
        return x;
    }

    static void passes(StatueRelief x, int hours) {
        for (int i = 0; i < hours; i++) {
            x.pass();
        }
    }

    static String times(int n, String what) {
        return what.repeat(n);
    }

    static void finish() {
        System.out.println(asked + " answers, " + wrong + " not as due");
        if (wrong != 0) {
            System.exit(1);
        }
    }
}
