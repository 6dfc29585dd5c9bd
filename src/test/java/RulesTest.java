import java.io.IOException;
import java.lang.management.ManagementFactory;
import java.lang.reflect.Constructor;
import java.lang.reflect.Field;
import java.lang.reflect.Method;
import java.lang.reflect.Modifier;
import java.nio.file.DirectoryStream;
import java.nio.file.Files;
import java.nio.file.Path;
import java.util.Set;
import java.util.TreeSet;
import java.util.regex.Matcher;
import java.util.regex.Pattern;

/** The public face, the rules of LANGUAGE.md that can be seen in the file, and the room that calls take. */
public final class RulesTest {
    private static final Check CHECK = new Check();
    private static final int PROMISES = 31;
    private static final String[] FACE = {
        "int about(int)", "int back(int)", "int best(int,int)", "int dies()", "int end(int)", "int fault(int)",
        "int feed(int,int,int,int,int)", "int fewest(int)", "int film(int,long)", "int fit(int,int)", "int fits(int)",
        "int image(int)", "int jumps(int,int,int)", "int later(int)", "int lives(int,int)", "int meet(int,int,int)",
        "int ring()", "int run(int)", "int same(int,int)", "int seat(int,int)", "int seed(int)",
        "int sure(int,int,int)", "int till(int,int)", "int tryNow()", "int waves()", "int way(int)", "int wide()",
        "int would()", "long odds(int,int)", "boolean untell(int)"};
    private static final String[] FORBIDDEN = {"throw", "throws", "try", "catch", "synchronized", "assert", "import",
        "package", "protected", "->", "::", "Exact", "new int\\[\\]\\[", "finally", "native", "volatile", "System\\.out",
        "currentTimeMillis", "nanoTime", "Random", "Thread", "hashCode", "toString"};

    public static void main(String[] args) throws IOException {
        face();
        source(Files.readString(Path.of("src/main/java/WaveRing.java")));
        nestedClasses();
        room();
        promises();
        CHECK.finish();
    }

    /** Each promise of the document has a class of tests that bears its number. */
    private static void promises() throws IOException {
        Set<String> tested = new TreeSet<>();
        try (DirectoryStream<Path> files = Files.newDirectoryStream(Path.of("src/test/java"), "Promise*Test.java")) {
            for (Path file : files) {
                tested.add(file.getFileName().toString().substring(7, 9));
            }
        }
        for (int promise = 1; promise <= PROMISES; promise++) {
            String number = promise < 10 ? "0" + promise : String.valueOf(promise);
            CHECK.due("promise " + number + " has tests", tested.contains(number), true);
        }
    }

    private static void face() {
        Set<String> due = new TreeSet<>(Set.of(FACE));
        Set<String> found = new TreeSet<>();
        Set<String> hidden = new TreeSet<>();
        for (Method method : WaveRing.class.getDeclaredMethods()) {
            if (Modifier.isPrivate(method.getModifiers())) {
                hidden.add(method.getName());
            } else if (!method.isSynthetic()) {
                CHECK.due("public " + method, Modifier.isPublic(method.getModifiers()), true);
                CHECK.due("of objects " + method, Modifier.isStatic(method.getModifiers()), false);
                found.add(signature(method));
            }
        }
        CHECK.due("the methods " + found + " are " + due, found.equals(due), true);
        for (String method : due) {
            String name = method.substring(method.indexOf(' ') + 1, method.indexOf('('));
            CHECK.due("no private method is called " + name, hidden.contains(name), false);
        }
        Constructor<?>[] makers = WaveRing.class.getDeclaredConstructors();
        CHECK.due("constructors", makers.length, 1);
        CHECK.due("its parameters", makers[0].getParameterCount(), 0);
        CHECK.due("public", Modifier.isPublic(makers[0].getModifiers()), true);
        CHECK.due("final", Modifier.isFinal(WaveRing.class.getModifiers()), true);
        for (Field field : WaveRing.class.getDeclaredFields()) {
            boolean isNone = field.getName().equals("NONE");
            CHECK.due("public is NONE alone: " + field, Modifier.isPublic(field.getModifiers()), isNone);
            CHECK.due("others are private: " + field, Modifier.isPrivate(field.getModifiers()), !isNone);
        }
        CHECK.due("NONE", WaveRing.NONE, -1);
    }

    private static String signature(Method method) {
        StringBuilder text = new StringBuilder(method.getReturnType().getName()).append(' ').append(method.getName()).append('(');
        for (int i = 0; i < method.getParameterCount(); i++) {
            text.append(i == 0 ? "" : ",").append(method.getParameterTypes()[i].getName());
        }
        return text.append(')').toString();
    }

    private static void source(String text) {
        for (String word : FORBIDDEN) {
            boolean letters = Character.isLetter(word.charAt(0));
            Matcher matcher = Pattern.compile(letters ? "\\b" + word + "\\b" : word).matcher(text);
            CHECK.due("the file has no " + word, matcher.find(), false);
        }
        for (int i = 0; i < text.length(); i++) {
            if (text.charAt(i) > 126) {
                CHECK.due("a sign above 126 at " + i, text.charAt(i), 0);
            }
        }
        int length = 0;
        for (String line : text.split("\n")) {
            length = line.matches("( {4}| {8})[a-z].*\\{") ? 0 : length + 1;
            CHECK.due("a method of more than sixty lines ends with " + line, length > 60 && line.matches(" {4,8}\\}"), false);
        }
    }

    private static void nestedClasses() {
        Class<?>[] nested = WaveRing.class.getDeclaredClasses();
        CHECK.due("at most twelve classes", nested.length < 12, true);
        for (Class<?> one : nested) {
            CHECK.due("static " + one, Modifier.isStatic(one.getModifiers()), true);
            int fields = 0;
            for (Field field : one.getDeclaredFields()) {
                fields += Modifier.isStatic(field.getModifiers()) ? 0 : 1;
            }
            CHECK.due("at most twenty fields in " + one, fields <= 20, true);
            for (Method method : one.getDeclaredMethods()) {
                CHECK.due("at most seven parameters: " + method, method.getParameterCount() <= 7, true);
                for (String due : FACE) {
                    CHECK.due("a name of the face: " + method, due.contains(" " + method.getName() + "("), false);
                }
            }
        }
    }

    /** All rows are made with the object: 512 calls of any kind make nothing more. */
    private static void room() {
        dearCalls(new WaveRing());
        WaveRing x = new WaveRing();
        com.sun.management.ThreadMXBean bean = (com.sun.management.ThreadMXBean) ManagementFactory.getThreadMXBean();
        long self = Thread.currentThread().getId();
        bean.getThreadAllocatedBytes(self);
        long before = bean.getThreadAllocatedBytes(self);
        dearCalls(x);
        long taken = bean.getThreadAllocatedBytes(self) - before;
        CHECK.due("bytes made by calls, above 2000: " + taken, taken > 2000, false);
        before = bean.getThreadAllocatedBytes(self);
        WaveRing[] made = new WaveRing[10];
        for (int i = 0; i < made.length; i++) {
            made[i] = new WaveRing();
        }
        taken = (bean.getThreadAllocatedBytes(self) - before) / made.length;
        CHECK.due("bytes of a new object, above 20000: " + taken, taken > 20000, false);
    }

    private static void dearCalls(WaveRing x) {
        x.feed(0x73656174, 0x73203430, 0x3b206665, 0x77203020, 0x746f2031);
        x.feed(0x3b202020, 0x20202020, 0x20202020, 0x20202020, 0x20202020);
        x.ring();
        x.tryNow();
        for (int i = 0; i < 20; i++) {
            x.run(10);
            x.till(i, 9);
            x.dies();
            x.best(12, 0);
            x.fewest(i);
            x.jumps(i, 12, 5);
            x.meet(i, 9, 3);
            x.odds(1, 0);
            x.film(i, 1L << i);
            x.later(1);
            x.fits(i);
            x.fit(i, i);
            x.sure(i, 39, i);
            x.same(i, i);
            x.image(i % 3);
            x.back(i % 3);
            x.feed(0x73656174, 0x73203430, 0x3b206665, 0x77203020, 0x746f2031);
        }
    }
}
