/** Promise 23: later. */
public final class Promise23LaterTest {
    public static void main(String[] args) throws ReflectiveOperationException {
        Check.runTests(Promise23LaterTest.class);
    }

    static void theTimeIs0AtFirst(Check check) {
        WaveRing x = new WaveRing();
        check.due("about(5)", x.about(5), 0);
        check.due("later(0)", x.later(0), 0);
    }

    static void byIs0To1000(Check check) {
        WaveRing x = new WaveRing();
        int[] others = {-1, 1001, 1002, Check.LEAST, Check.GREATEST};
        for (int by : others) {
            check.due("later(" + by + ")", x.later(by), -1);
            check.due("about(5)", x.about(5), 0);
        }
        check.due("later(1)", x.later(1), 1);
        check.due("later(0)", x.later(0), 1);
        check.due("later(999)", x.later(999), 1000);
        check.due("later(1000)", x.later(1000), 2000);
        check.due("later(-1000)", x.later(-1000), -1);
        check.due("about(5)", x.about(5), 2000);
    }

    private static WaveRing at99000(Check check) {
        WaveRing x = new WaveRing();
        for (int i = 1; i <= 99; i++) {
            check.due("later(1000)", x.later(1000), 1000 * i);
        }
        return x;
    }

    static void upTo100000(Check check) {
        WaveRing x = at99000(check);
        check.due("later(1000)", x.later(1000), 100000);
        check.due("later(1)", x.later(1), -1);
        check.due("later(1000)", x.later(1000), -1);
        check.due("later(0)", x.later(0), 100000);
        check.due("about(5)", x.about(5), 100000);
    }

    static void aboveThatNothingIsDone(Check check) {
        WaveRing x = at99000(check);
        check.due("later(999)", x.later(999), 99999);
        check.due("later(2)", x.later(2), -1);
        check.due("about(5)", x.about(5), 99999);
        check.due("later(1000)", x.later(1000), -1);
        check.due("later(1)", x.later(1), 100000);
    }

    static void filmsAreToldAtTheLastTimeToo(Check check) {
        WaveRing x = at99000(check);
        x.later(1000);
        x.film(0, 1L);
        x.film(1, 2L);
        check.due("known at 99999", x.fits(99999), 324);
        check.due("known at 100000", x.fits(100000) < 324, true);
        check.due("known at 100001", x.fits(100001) < 324, true);
    }

    static void theTimeIsNotThatOfTenths(Check check) {
        WaveRing x = check.made("seats 6;");
        x.run(9);
        check.due("about(5)", x.about(5), 0);
        x.image(0);
        x.later(4);
        check.due("about(1)", x.about(1), 9);
        x.back(0);
        check.due("about(5): an image does not keep it", x.about(5), 4);
    }
}
