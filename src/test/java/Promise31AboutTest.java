/** Promise 31: about. */
public final class Promise31AboutTest {
    private static final String LAW = "law up 1 rest 0 sees 1 shy 0 when ";

    public static void main(String[] args) throws ReflectiveOperationException {
        Check.runTests(Promise31AboutTest.class);
    }

    static void noneForAnotherWhat(Check check) {
        WaveRing x = new WaveRing();
        int[] others = {-1, 9, 10, Check.LEAST, Check.GREATEST};
        for (int what : others) {
            check.due("about(" + what + ")", x.about(what), -1);
        }
    }

    static void eachOfThem(Check check) {
        WaveRing x = check.made("seats 11; few 3 to 4; law up 2 rest 0 sees 1 shy 0 when left>0 and (1);");
        x.tryNow();
        x.tryNow();
        x.tryNow();
        x.run(1);
        x.film(1, 1L);
        x.film(1, 1L);
        x.untell(0);
        x.later(9);
        x.feed(1, 2, 3, 4, 5);
        x.seed(77);
        int[] due = {11, 1, 3, 3, 2, 9, 20, 77, 4};
        for (int what = 0; what < due.length; what++) {
            check.due("about(" + what + ")", x.about(what), due[what]);
        }
    }

    static void what0IsSeatsGapsToo(Check check) {
        check.due("six", check.made("seats 6; gap 0 to 5;").about(0), 6);
        check.due("forty", check.made("seats 40;").about(0), 40);
        check.due("not told", check.made("few 0 to 0;").about(0), 24);
    }

    static void what1IsTenthsThatThereWere(Check check) {
        WaveRing x = check.made("seats 6;");
        check.due("at first", x.about(1), 0);
        x.run(0);
        x.run(401);
        check.due("nothing was run", x.about(1), 0);
        x.run(400);
        x.run(1);
        check.due("401", x.about(1), 401);
    }

    static void what3IsThoseUpInAnyTenthOfIt(Check check) {
        WaveRing x = check.made("seats 40; few 0 to 39; law up 3 rest 1 sees 1 shy 0 when 0;");
        int[] due = {0, 40, 40, 40, 0, 0};
        check.due("at first", x.about(3), due[0]);
        x.tryNow();
        for (int i = 1; i < due.length; i++) {
            check.due("behind " + (i - 1), x.about(3), due[i]);
            x.run(1);
        }
    }

    static void what4IsFilmsUntoldOnesToo(Check check) {
        WaveRing x = check.made("seats 6;");
        for (int i = 0; i <= 60; i++) {
            check.due("films", x.about(4), i);
            x.film(0, 1L);
            x.untell(i);
        }
        check.due("no more than 60", x.about(4), 60);
    }

    static void what6IsBytesOnTheTape(Check check) {
        WaveRing x = new WaveRing();
        for (int i = 0; i <= 40; i++) {
            check.due("bytes", x.about(6), 20 * i);
            x.feed(0, 0, 0, 0, 0);
        }
        check.due("no more than 800", x.about(6), 800);
        x.end(799);
        check.due("one less", x.about(6), 799);
    }

    static void what7MayBeMinus1(Check check) {
        WaveRing x = new WaveRing();
        check.due("at first", x.about(7), 1);
        x.seed(-1);
        check.due("about(7)", x.about(7), -1);
    }

    static void what8IsUnitsOfTheLaw(Check check) {
        check.due("none is told", check.made("seats 6;").about(8), 2);
        check.due("one", check.made(LAW + "1;").about(8), 1);
        check.due("two", check.made(LAW + "left>0;").about(8), 2);
        check.due("nots are none", check.made(LAW + "not not left;").about(8), 1);
        check.due("brackets are", check.made(LAW + "not(left)+(1*(2));").about(8), 6);
        check.due("thirty", check.made(LAW + "1" + "*1".repeat(29) + ";").about(8), 30);
        WaveRing x = check.made(LAW + "1;");
        Check.tell(x, LAW + "1+1+1$");
        check.due("behind a fault", x.about(8), 1);
        x.ring();
        check.due("behind a ring without a law", x.about(8), 2);
    }
}
