import java.nio.charset.StandardCharsets;
import java.util.Arrays;

/** Counts the answers that are not as due, and tells a ring's text to a WaveRing. */
final class Check {
    private int asked = 0;
    private int wrong = 0;

    void due(String what, long got, long want) {
        asked++;
        if (got != want) {
            wrong++;
            System.out.println(what + " answered " + got + ", due is " + want);
        }
    }

    void due(String what, boolean got, boolean want) {
        due(what, got ? 1 : 0, want ? 1 : 0);
    }

    /** The ring of a new object that is told so. */
    WaveRing made(String text) {
        WaveRing x = new WaveRing();
        tell(x, text);
        due("fault(0) of: " + text, x.fault(0), 0);
        return x;
    }

    /** Feeds a text, cuts what fills the last twenty bytes, and calls ring(). */
    static int tell(WaveRing x, String text) {
        fed(x, text);
        return x.ring();
    }

    static void fed(WaveRing x, String text) {
        byte[] told = text.getBytes(StandardCharsets.ISO_8859_1);
        byte[] all = Arrays.copyOf(told, (told.length + 19) / 20 * 20);
        for (int i = 0; i < all.length; i += 20) {
            x.feed(four(all, i), four(all, i + 4), four(all, i + 8), four(all, i + 12), four(all, i + 16));
        }
        x.end(told.length);
    }

    private static int four(byte[] bytes, int i) {
        return (bytes[i] & 255) << 24 | (bytes[i + 1] & 255) << 16 | (bytes[i + 2] & 255) << 8 | bytes[i + 3] & 255;
    }

    /** Whether a text has that fault at that place; 0 and NONE: none. */
    void faulty(String text, int fault, int place) {
        WaveRing x = new WaveRing();
        int seats = tell(x, text);
        due("ring() is NONE for: " + text, seats == WaveRing.NONE, fault != 0);
        due("fault(0) of: " + text, x.fault(0), fault);
        due("fault(1) of: " + text, x.fault(1), place);
    }

    void finish() {
        System.out.println(asked + " answers, " + wrong + " not as due");
        if (wrong != 0 || asked == 0) {
            System.exit(1);
        }
    }
}
