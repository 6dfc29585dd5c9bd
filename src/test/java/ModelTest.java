import java.nio.charset.StandardCharsets;
import java.util.Random;

/** Runs of calls by chance (always the same), each answer held against the document written a second time. */
public final class ModelTest {
    private static final int RUNS = 800;
    // An object is good for 512 calls, and all seats of a ring take 131 at once.
    private static final int CALLS = 512 - 131;
    private static final int TEXTS = 20000;
    private static final int TEXTS_OF_ONE = 10;
    private static final int[] ODD = {-1, 0, 1, 2, 3, 5, 6, 9, 10, 12, 13, 24, 39, 40, 41, 100,
        Integer.MAX_VALUE, Integer.MIN_VALUE};
    private static int wrong = 0;
    private static long asked = 0;

    private final Random random;
    private final WaveRing x = new WaveRing();
    private final Model y = new Model();
    private final StringBuilder told = new StringBuilder();
    private int calls = 0;

    private ModelTest(int seed) {
        random = new Random(seed);
    }

    public static void main(String[] args) {
        for (int i = 0; i < TEXTS / TEXTS_OF_ONE; i++) {
            ModelTest texts = new ModelTest(700000 + i);
            for (int j = 0; j < TEXTS_OF_ONE; j++) {
                texts.text(true);
            }
        }
        for (int run = 0; run < RUNS; run++) {
            new ModelTest(1000 + run).calls();
        }
        System.out.println(asked + " answers, " + wrong + " not as the model's");
        if (wrong != 0 || asked == 0) {
            System.exit(1);
        }
    }

    private void same(String call, long got, long want) {
        asked++;
        calls++;
        told.append(call).append(" -> ").append(want).append('\n');
        if (got != want) {
            wrong++;
            if (wrong < 4) {
                System.out.println(told + "   but it answered " + got);
            }
        }
    }

    private void calls() {
        text(false);
        same("tryNow()", x.tryNow(), y.tryNow());
        while (calls < CALLS) {
            call();
        }
    }

    private int pick(int bound) {
        return random.nextInt(bound);
    }

    private boolean chance(int percent) {
        return pick(100) < percent;
    }

    /** Mostly 0 up to below, now and then an odd one. */
    private int some(int below) {
        return chance(94) ? pick(Math.max(1, below)) : ODD[pick(ODD.length)];
    }

    private void call() {
        int kind = pick(100);
        if (kind < 45) {
            liveCall(pick(10));
        } else if (kind < 60) {
            comingCall(pick(7));
        } else if (kind < 97) {
            filmCall(pick(10));
        } else {
            text(chance(30));
        }
    }

    private void liveCall(int kind) {
        int a = some(y.about(0));
        int b = some(4);
        switch (kind) {
            case 0, 1 -> same("tryNow()", x.tryNow(), y.tryNow());
            case 2, 3 -> {
                int n = chance(90) ? pick(4) : some(60);
                same("run(" + n + ")", x.run(n), y.run(n));
            }
            case 4 -> everySeat();
            case 5 -> {
                same("would()", x.would(), y.would());
                same("wide()", x.wide(), y.wide());
                same("waves()", x.waves(), y.waves());
            }
            case 6 -> {
                same("way(" + b + ")", x.way(b), y.way(b));
                same("about(" + a + ")", x.about(a), y.about(a));
            }
            case 7 -> {
                int m = pick(4);
                same("odds(" + m + ", " + b + ")", x.odds(m, b), y.odds(m, b));
                same("odds(" + a + ", " + b % 2 + ")", x.odds(a, b % 2), y.odds(a, b % 2));
            }
            case 8 -> same("image(" + b + ")", x.image(b), y.image(b));
            default -> {
                same("back(" + b + ")", x.back(b), y.back(b));
                if (chance(20)) {
                    int w = random.nextInt();
                    same("seed(" + w + ")", x.seed(w), y.seed(w));
                }
            }
        }
    }

    private void everySeat() {
        for (int seat = 0; seat < y.about(0); seat++) {
            same("seat(" + seat + ", 0)", x.seat(seat, 0), y.seat(seat, 0));
            same("seat(" + seat + ", 1)", x.seat(seat, 1), y.seat(seat, 1));
            int what = some(5);
            same("seat(" + seat + ", " + what + ")", x.seat(seat, what), y.seat(seat, what));
        }
        for (int what = -1; what < 10; what++) {
            same("about(" + what + ")", x.about(what), y.about(what));
        }
    }

    private void comingCall(int kind) {
        int a = some(y.about(0));
        int b = some(y.about(0));
        int n = chance(70) ? 1 + pick(5) : some(14);
        switch (kind) {
            case 0 -> same("till(" + a + ", " + n + ")", x.till(a, n), y.till(a, n));
            case 1 -> same("dies()", x.dies(), y.dies());
            case 2 -> same("lives(" + a + ", " + n + ")", x.lives(a, n), y.lives(a, n));
            case 3 -> same("fewest(" + a + ")", x.fewest(a), y.fewest(a));
            case 4 -> {
                int what = chance(95) ? pick(2) : some(3);
                same("best(" + n + ", " + what + ")", x.best(n, what), y.best(n, what));
            }
            case 5 -> same("jumps(" + a + ", " + n + ", " + b + ")", x.jumps(a, n, b), y.jumps(a, n, b));
            default -> same("meet(" + a + ", " + b + ", " + n + ")", x.meet(a, b, n), y.meet(a, b, n));
        }
    }

    private void filmCall(int kind) {
        int k = y.about(5) - pick(4) + 1;
        int a = some(y.about(0));
        switch (kind) {
            case 0, 1 -> tellFilm();
            case 2 -> {
                int film = some(y.about(4) + 1);
                same("untell(" + film + ")", x.untell(film) ? 1 : 0, y.untell(film) ? 1 : 0);
            }
            case 3 -> {
                int by = chance(90) ? pick(3) : some(1002);
                same("later(" + by + ")", x.later(by), y.later(by));
            }
            case 4 -> same("fits(" + k + ")", x.fits(k), y.fits(k));
            case 5 -> {
                int i = chance(50) ? pick(6) : some(325);
                same("fit(" + i + ", " + k + ")", x.fit(i, k), y.fit(i, k));
            }
            case 6, 7 -> {
                int moment = some(40);
                same("sure(" + a + ", " + moment + ", " + k + ")", x.sure(a, moment, k), y.sure(a, moment, k));
            }
            default -> {
                int law = some(324);
                int other = chance(50) ? law + 36 * pick(3) - 12 * pick(3) - pick(4) : some(324);
                same("same(" + law + ", " + other + ")", x.same(law, other), y.same(law, other));
            }
        }
    }

    /** Often what the ring shows now, so that some laws fit. */
    private void tellFilm() {
        long ups = 0;
        for (int seat = 0; seat < y.about(0); seat++) {
            int state = y.seat(seat, 0);
            ups |= state > 0 && state < 10 ? 1L << seat : 0;
        }
        if (chance(20)) {
            ups ^= 1L << some(y.about(0));
        }
        int moment = chance(80) ? Math.min(39, y.about(1)) : some(40);
        same("film(" + moment + ", " + ups + ")", x.film(moment, ups), y.film(moment, ups));
    }

    /** A ring's text, faulty or not, is told to both. */
    private void text(boolean faulty) {
        String text = new RingText(random).made(faulty);
        byte[] bytes = text.getBytes(StandardCharsets.ISO_8859_1);
        for (int i = 0; i < bytes.length; i += 20) {
            int[] five = new int[5];
            for (int j = 0; j < 20; j++) {
                int b = i + j < bytes.length ? bytes[i + j] & 255 : 0;
                five[j / 4] = five[j / 4] << 8 | b;
            }
            same("feed", x.feed(five[0], five[1], five[2], five[3], five[4]), y.feed(five));
        }
        same("end(" + bytes.length + ")", x.end(bytes.length), y.end(bytes.length));
        same("ring() of " + text, x.ring(), y.ring());
        same("fault(0)", x.fault(0), y.fault(0));
        same("fault(1)", x.fault(1), y.fault(1));
        same("about(8)", x.about(8), y.about(8));
        same("about(0)", x.about(0), y.about(0));
    }
}
