import java.lang.reflect.InvocationTargetException;
import java.lang.reflect.Method;
import java.lang.reflect.Modifier;
import java.nio.charset.StandardCharsets;
import java.util.Arrays;
import java.util.Comparator;

/** Counts the answers that are not as due, and tells a ring's text to a WaveRing. */
final class Check {
    static final int LEAST = Integer.MIN_VALUE;
    static final int GREATEST = Integer.MAX_VALUE;

    private String test = "";
    private int asked = 0;
    private int wrong = 0;

    /** Runs each method of a class that takes a Check alone and is not private: each of them is a test of its own. */
    static void runTests(Class<?> tests) throws ReflectiveOperationException {
        Check check = new Check();
        Method[] methods = tests.getDeclaredMethods();
        Arrays.sort(methods, Comparator.comparing(Method::getName));
        for (Method method : methods) {
            if (isTest(method)) {
                check.runTest(tests, method);
            }
        }
        check.finish();
    }

    static boolean isTest(Method method) {
        return !Modifier.isPrivate(method.getModifiers())
            && Arrays.equals(method.getParameterTypes(), new Class<?>[] {Check.class});
    }

    private void runTest(Class<?> tests, Method method) throws ReflectiveOperationException {
        test = tests.getSimpleName() + "." + method.getName() + ": ";
        int before = asked;
        try {
            method.invoke(null, this);
        } catch (InvocationTargetException thrown) {
            wrong++;
            System.out.println(test + "ended by " + thrown.getCause());
        }
        if (asked == before) {
            wrong++;
            System.out.println(test + "asked nothing");
        }
    }

    void due(String what, long got, long want) {
        asked++;
        if (got != want) {
            wrong++;
            System.out.println(test + what + " answered " + got + ", due is " + want);
        }
    }

    void due(String what, boolean got, boolean want) {
        due(what, got ? 1 : 0, want ? 1 : 0);
    }

    void due(String what, String got, String want) {
        asked++;
        if (!got.equals(want)) {
            wrong++;
            System.out.println(test + what + " answered\n  " + got + ", due is\n  " + want);
        }
    }

    /** The ring of a new object that is told so. */
    WaveRing made(String text) {
        WaveRing x = new WaveRing();
        tell(x, text);
        due("fault(0) of: " + text, x.fault(0), 0);
        return x;
    }

    /** The same, and those are up by a TRY who are few. */
    WaveRing tried(String text) {
        WaveRing x = made(text);
        x.tryNow();
        return x;
    }

    /** Feeds a text, cuts what fills the last twenty bytes, and calls ring(). */
    static int tell(WaveRing x, String text) {
        fed(x, text);
        return x.ring();
    }

    static void fed(WaveRing x, String text) {
        byte[] told = text.getBytes(StandardCharsets.ISO_8859_1);
        byte[] all = Arrays.copyOf(told, (told.length + 19) / 20 * 20);
        int before = x.about(6);
        for (int i = 0; i < all.length; i += 20) {
            x.feed(four(all, i), four(all, i + 4), four(all, i + 8), four(all, i + 12), four(all, i + 16));
        }
        x.end(before + told.length);
    }

    private static int four(byte[] bytes, int i) {
        return (bytes[i] & 255) << 24 | (bytes[i + 1] & 255) << 16 | (bytes[i + 2] & 255) << 8 | bytes[i + 3] & 255;
    }

    /** Whether a text has that fault at that place; 0 and NONE: none. */
    void faulty(String text, int fault, int place) {
        WaveRing x = new WaveRing();
        int seats = tell(x, text);
        due("ring() is NONE for: " + text, seats == WaveRing.NONE, fault != 0);
        due("fault(0) of: " + text, x.fault(0), fault);
        due("fault(1) of: " + text, x.fault(1), place);
    }

    /** Whether a text is a ring of so many seats. */
    void stands(String text, int seats) {
        WaveRing x = new WaveRing();
        due("ring() of: " + text, tell(x, text), seats);
        due("fault(0) of: " + text, x.fault(0), 0);
        due("fault(1) of: " + text, x.fault(1), -1);
    }

    /** What the seats do, one number behind the other. */
    static String states(WaveRing x) {
        return answers(x, 0);
    }

    /** Of each seat one answer, one number behind the other. */
    static String answers(WaveRing x, int what) {
        StringBuilder text = new StringBuilder();
        int seats = x.about(0);
        for (int seat = 0; seat < seats; seat++) {
            text.append(seat == 0 ? "" : " ").append(x.seat(seat, what));
        }
        return text.toString();
    }

    /** All that an image keeps, as far as calls show it. */
    static String crowd(WaveRing x) {
        return states(x) + " rose " + answers(x, 1) + " ways " + x.way(0) + " " + x.way(1) + " " + x.way(2)
            + " tenth " + x.about(1) + " asked " + x.about(2) + " w " + x.about(7);
    }

    /** All that calls show without films; of the 512 calls of an object it takes 19 and four for each seat. */
    static String everything(WaveRing x) {
        StringBuilder text = new StringBuilder(crowd(x));
        text.append(" told ").append(answers(x, 2)).append(" few ").append(answers(x, 3)).append(" about");
        for (int what = 0; what <= 8; what++) {
            text.append(' ').append(x.about(what));
        }
        return text.toString();
    }

    void finish() {
        System.out.println(asked + " answers, " + wrong + " not as due");
        if (wrong != 0 || asked == 0) {
            System.exit(1);
        }
    }
}
