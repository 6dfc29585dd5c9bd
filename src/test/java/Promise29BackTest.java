/** Promise 29: back. */
public final class Promise29BackTest {
    private static final String TEXT = "seats 9; few 0 to 0; few 4 to 4; law up 2 rest 2 sees 1 shy 4 when left+right>0;";

    public static void main(String[] args) throws ReflectiveOperationException {
        Check.runTests(Promise29BackTest.class);
    }

    static void noneIfNothingWasKept(Check check) {
        WaveRing x = check.tried(TEXT);
        x.run(3);
        String before = Check.everything(x);
        int[] boxes = {0, 1, 2, 3, -1, Check.LEAST, Check.GREATEST};
        for (int box : boxes) {
            check.due("back(" + box + ")", x.back(box), -1);
        }
        check.due("it does nothing", Check.everything(x), before);
        x.image(1);
        check.due("back(0)", x.back(0), -1);
        check.due("back(1)", x.back(1), 3);
        check.due("back(2)", x.back(2), -1);
    }

    static void allIsAsItWasKept(Check check) {
        WaveRing x = check.tried(TEXT);
        x.seed(1234567);
        x.run(3);
        x.image(2);
        String kept = Check.crowd(x);
        int wide = x.wide();
        int waves = x.waves();
        int would = x.would();
        int dies = x.dies();
        x.run(9);
        x.tryNow();
        x.seed(5);
        check.due("back(2)", x.back(2), 3);
        check.due("all", Check.crowd(x), kept);
        check.due("wide()", x.wide(), wide);
        check.due("waves()", x.waves(), waves);
        check.due("would()", x.would(), would);
        check.due("dies()", x.dies(), dies);
    }

    static void itGoesOnAsItDid(Check check) {
        WaveRing x = check.tried(TEXT);
        x.run(3);
        x.image(0);
        int risen = x.run(20);
        String then = Check.crowd(x);
        x.run(7);
        x.back(0);
        check.due("run(20)", x.run(20), risen);
        check.due("all", Check.crowd(x), then);
    }

    static void afterAnImageOfTheBeginning(Check check) {
        WaveRing x = check.made(TEXT);
        String fresh = Check.crowd(x);
        x.image(0);
        x.tryNow();
        x.run(30);
        check.due("back(0): the tenth", x.back(0), 0);
        check.due("all", Check.crowd(x), fresh);
    }

    static void theSameBoxCanBeTakenAgain(Check check) {
        WaveRing x = check.tried(TEXT);
        x.run(2);
        x.image(0);
        String kept = Check.crowd(x);
        for (int i = 0; i < 3; i++) {
            x.run(i);
            check.due("back(0)", x.back(0), 2);
            check.due("all", Check.crowd(x), kept);
        }
    }

    static void eachPartIsKept(Check check) {
        waysAreKept(check, "left>0", 0);
        waysAreKept(check, "right>0", 1);
        waysAreKept(check, "tenth<9", 2);
        WaveRing x = check.tried("seats 6; few 0 to 0; law up 1 rest 0 sees 1 shy 0 when asked=1 and tenth=3;");
        x.run(2);
        x.image(0);
        check.due("asked and tenth", x.run(1), 6);
        x.tryNow();
        x.back(0);
        check.due("asked and tenth again", x.run(1), 6);
    }

    private static void waysAreKept(Check check, String e, int way) {
        WaveRing x = check.tried("seats 9; few 0 to 0; law up 1 rest 0 sees 1 shy 0 when " + e + ";");
        x.run(2);
        int before = x.way(way);
        x.image(0);
        x.run(2);
        check.due("the way is gone more", x.way(way) > before, true);
        x.back(0);
        check.due("the way is as kept", x.way(way), before);
    }

    static void filmsTheTimeAndTheTapeAreNotKept(Check check) {
        WaveRing x = check.made(TEXT);
        x.image(0);
        x.film(0, 1L);
        x.later(4);
        x.feed(1, 2, 3, 4, 5);
        x.back(0);
        check.due("films", x.about(4), 1);
        check.due("the time", x.about(5), 4);
        check.due("the tape", x.about(6), 20);
    }

    static void behindANewRingNothingIsKeptButBehindAFaultItIs(Check check) {
        WaveRing x = check.tried(TEXT);
        x.run(2);
        x.image(0);
        Check.tell(x, "seats 5;");
        check.due("back(0) behind a fault", x.back(0), 2);
        Check.tell(x, TEXT);
        check.due("back(0) behind a ring", x.back(0), -1);
        check.due("about(1)", x.about(1), 0);
        x.image(1);
        check.due("back(0)", x.back(0), -1);
    }
}
