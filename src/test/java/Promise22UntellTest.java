/** Promise 22: untell. */
public final class Promise22UntellTest {
    public static void main(String[] args) throws ReflectiveOperationException {
        Check.runTests(Promise22UntellTest.class);
    }

    static void falseIfThereIsNoneSuch(Check check) {
        WaveRing x = check.made("seats 6;");
        check.due("untell(0) of none", x.untell(0), false);
        x.film(0, 1L);
        x.film(1, 2L);
        int[] others = {-1, 2, 3, 59, 60, 61, Check.LEAST, Check.GREATEST};
        for (int film : others) {
            check.due("untell(" + film + ")", x.untell(film), false);
        }
        check.due("untell(1)", x.untell(1), true);
        check.due("untell(0)", x.untell(0), true);
    }

    static void falseIfItIsSoAlready(Check check) {
        WaveRing x = check.made("seats 6;");
        x.film(0, 1L);
        check.due("untell(0)", x.untell(0), true);
        check.due("untell(0) again", x.untell(0), false);
        x.later(5);
        check.due("untell(0) later", x.untell(0), false);
    }

    static void theLastOfSixty(Check check) {
        WaveRing x = check.made("seats 6;");
        for (int film = 0; film < 60; film++) {
            x.film(0, 1L);
        }
        check.due("untell(59)", x.untell(59), true);
        check.due("untell(60)", x.untell(60), false);
        check.due("about(4): it is a film still", x.about(4), 60);
    }

    static void itIsUntoldFromThatTimeOn(Check check) {
        WaveRing x = check.made("seats 6;");
        x.film(0, 1L);
        x.film(1, 2L);
        x.later(5);
        x.untell(1);
        check.due("known at 4", x.fits(4), 4);
        check.due("known at 5", x.fits(5), 324);
        check.due("known at 6", x.fits(6), 324);
    }

    static void untoldTwiceItIsSoFromTheFirstTime(Check check) {
        WaveRing x = check.made("seats 6;");
        x.film(0, 1L);
        x.film(1, 2L);
        x.later(5);
        x.untell(1);
        x.later(5);
        x.untell(1);
        check.due("known at 4", x.fits(4), 4);
        check.due("known at 5", x.fits(5), 324);
        check.due("known at 9", x.fits(9), 324);
    }

    static void atTheSameTimeItWasNeverKnown(Check check) {
        WaveRing x = check.made("seats 6;");
        x.later(3);
        x.film(0, 1L);
        x.film(1, 2L);
        x.untell(1);
        check.due("known at 2", x.fits(2), 324);
        check.due("known at 3", x.fits(3), 324);
        check.due("known at 4", x.fits(4), 324);
    }

    static void atTime0Too(Check check) {
        WaveRing x = check.made("seats 6;");
        x.film(0, 1L);
        x.film(1, 2L);
        check.due("known at 0", x.fits(0), 4);
        x.untell(0);
        check.due("known at 0", x.fits(0), 324);
    }

    static void ofTheRingBeforeThereIsNone(Check check) {
        WaveRing x = check.made("seats 6;");
        x.film(0, 1L);
        x.untell(0);
        Check.tell(x, "seats 6;");
        check.due("untell(0)", x.untell(0), false);
        x.film(0, 1L);
        check.due("untell(0) of the new one", x.untell(0), true);
    }
}
