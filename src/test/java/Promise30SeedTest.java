/** Promise 30: seed. */
public final class Promise30SeedTest {
    public static void main(String[] args) throws ReflectiveOperationException {
        Check.runTests(Promise30SeedTest.class);
    }

    static void itAnswersWhatItWas(Check check) {
        WaveRing x = new WaveRing();
        check.due("at first", x.seed(5), 1);
        check.due("then", x.seed(5), 5);
        check.due("about(7)", x.about(7), 5);
    }

    static void eachIntIsLet(Check check) {
        WaveRing x = new WaveRing();
        int[] all = {0, -1, 1, Check.LEAST, Check.GREATEST, 65535, -65536};
        int before = 1;
        for (int w : all) {
            check.due("seed(" + w + ")", x.seed(w), before);
            check.due("about(7)", x.about(7), w);
            before = w;
        }
    }

    static void whatIsDrawnGoesOnFromIt(Check check) {
        WaveRing x = check.made("seats 6; dear 0 to 4; law up 1 rest 0 sees 1 shy 1 when 1;");
        x.seed(0);
        // 12345 >>> 16 is 0, and 0 is below 1.
        check.due("run(1)", x.run(1), 0);
        check.due("seed(7)", x.seed(7), 12345);
        x.run(1);
        check.due("w", x.about(7), 7 * 1103515245 + 12345);
    }

    static void nothingElseChanges(Check check) {
        WaveRing x = check.tried("seats 8; few 0 to 1; law up 2 rest 2 sees 2 shy 0 when left>0;");
        x.run(2);
        String before = Check.everything(x);
        x.seed(99);
        x.seed(1);
        check.due("all", Check.everything(x), before);
    }

    static void ringLetsItStay(Check check) {
        WaveRing x = new WaveRing();
        x.seed(99);
        x.ring();
        check.due("about(7)", x.about(7), 99);
        Check.tell(x, "$");
        check.due("seed(1)", x.seed(1), 99);
    }
}
