/** Promise 13: till. */
public final class Promise13TillTest {
    private static final String ROUND = "law up 1 rest 2 sees 1 shy 0 when left>0;";
    private static final String ALL = "law up 1 rest 0 sees 1 shy 0 when ";

    public static void main(String[] args) throws ReflectiveOperationException {
        Check.runTests(Promise13TillTest.class);
    }

    static void fromTheNextTenthOn(Check check) {
        WaveRing x = check.tried("seats 10; few 0 to 0; " + ROUND);
        check.due("till(1, 1)", x.till(1, 1), 1);
        check.due("till(9, 1)", x.till(9, 1), 9);
        check.due("till(0, 1): round", x.till(0, 1), 10);
        check.due("till(0, 2): twice round", x.till(0, 2), 20);
        x.run(4);
        check.due("till(5, 1)", x.till(5, 1), 1);
        check.due("till(4, 1): it is up now", x.till(4, 1), 10);
    }

    static void atMost400Tenths(Check check) {
        check.due("in the 399th", check.made("seats 6; " + ALL + "tenth=399;").till(5, 1), 399);
        check.due("in the 400th", check.made("seats 6; " + ALL + "tenth=400;").till(5, 1), 400);
        WaveRing x = check.made("seats 6; " + ALL + "tenth=401;");
        check.due("in the 401st", x.till(5, 1), -1);
        x.run(1);
        check.due("in the 400th from now", x.till(5, 1), 400);
        x.run(400);
        check.due("it is gone", x.till(5, 1), -1);
    }

    static void theLastOfNineTimesInAtMost400(Check check) {
        WaveRing x = check.made("seats 6; " + ALL + "tenth>383;");
        check.due("till(0, 1)", x.till(0, 1), 384);
        check.due("till(0, 8)", x.till(0, 8), 398);
        check.due("till(0, 9)", x.till(0, 9), 400);
        x = check.made("seats 6; " + ALL + "tenth>384;");
        check.due("till(0, 8)", x.till(0, 8), 399);
        check.due("till(0, 9): in the 401st", x.till(0, 9), -1);
    }

    static void timesAre1To9(Check check) {
        WaveRing x = check.made("seats 6; " + ALL + "1;");
        int[] others = {0, -1, 10, 11, Check.LEAST, Check.GREATEST};
        for (int times : others) {
            check.due("till(2, " + times + ")", x.till(2, times), -1);
        }
        for (int times = 1; times <= 9; times++) {
            check.due("till(2, " + times + ")", x.till(2, times), 2 * times - 1);
        }
        x = check.tried("seats 10; few 0 to 0; " + ROUND);
        check.due("till(5, 0): it does not rise in the next tenth", x.till(5, 0), -1);
    }

    static void noneIfThereIsNoSuchSeat(Check check) {
        int[] all = {6, 40};
        for (int seats : all) {
            WaveRing x = check.made("seats " + seats + "; " + ALL + "1;");
            int[] others = {-1, seats, seats + 1, 64, 64 + 5, Check.LEAST, Check.GREATEST};
            for (int seat : others) {
                check.due("till(" + seat + ", 1)", x.till(seat, 1), -1);
            }
            check.due("the first", x.till(0, 1), 1);
            check.due("the last", x.till(seats - 1, 1), 1);
        }
    }

    static void neverADearOneOrAGap(Check check) {
        WaveRing x = check.tried("seats 6; few 1 to 1; dear 1 to 1; gap 2 to 2; " + ALL + "1;");
        check.due("a dear one, though it tried", x.till(1, 1), -1);
        check.due("a gap", x.till(2, 1), -1);
        check.due("another one", x.till(3, 9), 17);
    }

    static void timesMoreThanItRose(Check check) {
        WaveRing x = check.tried("seats 6; few 0 to 0; " + ALL + "rose<3;");
        check.due("two times more", x.till(0, 2), 4);
        check.due("not three", x.till(0, 3), -1);
        check.due("three times who did not yet", x.till(1, 3), 5);
    }

    static void asIfShyWere0(Check check) {
        for (int shy = 0; shy <= 9; shy++) {
            WaveRing x = check.tried("seats 8; few 0 to 0; law up 1 rest 2 sees 1 shy " + shy + " when left>0;");
            check.due("shy " + shy, x.till(7, 1), 7);
            check.due("nothing is drawn", x.about(7), 1);
        }
    }

    static void allStaysAsItWas(Check check) {
        WaveRing x = check.tried("seats 8; few 0 to 1; law up 2 rest 2 sees 2 shy 3 when left>0 or right>1;");
        x.run(2);
        String before = Check.everything(x);
        x.till(7, 3);
        x.till(0, 9);
        check.due("all", Check.everything(x), before);
    }

    static void tenthAskedAndRoseGoOnFromNow(Check check) {
        WaveRing x = check.made("seats 6; slack 9 to 9 by 1; " + ALL + "slack and asked=2 and rose=0;");
        x.tryNow();
        x.run(3);
        check.due("asked once", x.till(0, 1), -1);
        x.tryNow();
        check.due("in tenth 9", x.till(0, 1), 6);
    }
}
