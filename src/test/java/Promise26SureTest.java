/** Promise 26: sure. */
public final class Promise26SureTest {
    public static void main(String[] args) throws ReflectiveOperationException {
        Check.runTests(Promise26SureTest.class);
    }

    /** One goes to the right from seat 0 in moment 5 on; its four laws have rest 0 .. 3. */
    private static WaveRing toTheRight(Check check) {
        WaveRing x = check.made("seats 8;");
        x.film(5, 1L);
        x.film(6, 2L);
        return x;
    }

    static void noneIfNoFilmIsKnown(Check check) {
        WaveRing x = check.made("seats 8;");
        check.due("no film", x.sure(0, 0, 0), -1);
        x.later(3);
        x.film(0, 1L);
        check.due("not known at 2", x.sure(0, 0, 2), -1);
        check.due("known at 3", x.sure(0, 0, 3), 1);
        x.later(1);
        x.untell(0);
        check.due("known at 3 still", x.sure(0, 0, 3), 1);
        check.due("untold at 4", x.sure(0, 0, 4), -1);
    }

    static void noneIfNoneFits(Check check) {
        WaveRing x = toTheRight(check);
        x.film(7, 0L);
        check.due("none fits", x.fits(0), 0);
        check.due("sure", x.sure(0, 5, 0), -1);
        check.due("sure later", x.sure(0, 9, 0), -1);
        x = check.made("seats 8; gap 3 to 3;");
        x.film(0, 8L);
        check.due("somebody in a gap", x.sure(0, 0, 0), -1);
    }

    static void seatsAsThereAre(Check check) {
        WaveRing x = toTheRight(check);
        int[] others = {-1, 8, 9, 64, Check.LEAST, Check.GREATEST};
        for (int seat : others) {
            check.due("sure(" + seat + ", 5, 0)", x.sure(seat, 5, 0), -1);
        }
        check.due("sure(0, 5, 0)", x.sure(0, 5, 0), 1);
        check.due("sure(7, 5, 0)", x.sure(7, 5, 0), 0);
        x = check.made("seats 40;");
        x.film(0, 1L << 39);
        check.due("sure(39, 0, 0)", x.sure(39, 0, 0), 1);
        check.due("sure(40, 0, 0)", x.sure(40, 0, 0), -1);
    }

    static void notAheadOfTheFirstKnownMoment(Check check) {
        WaveRing x = toTheRight(check);
        check.due("moment 4", x.sure(0, 4, 0), -1);
        check.due("moment 0", x.sure(0, 0, 0), -1);
        check.due("moment 5", x.sure(0, 5, 0), 1);
        check.due("moment 6", x.sure(0, 6, 0), 0);
        x.untell(0);
        check.due("now 6 is the first", x.sure(1, 6, 0), 1);
        check.due("and 5 is ahead of it", x.sure(0, 5, 0), -1);
    }

    static void momentsAre0To39(Check check) {
        WaveRing x = toTheRight(check);
        int[] others = {-1, 40, 41, Check.LEAST, Check.GREATEST};
        for (int moment : others) {
            check.due("sure(0, " + moment + ", 0)", x.sure(0, moment, 0), -1);
        }
        check.due("moment 39: 34 seats farther", x.sure(34 % 8, 39, 0), 1);
        check.due("moment 38: 33 seats farther", x.sure(33 % 8, 38, 0), 1);
        x = check.made("seats 8;");
        x.film(39, 2L);
        check.due("39 is the first", x.sure(1, 39, 0), 1);
        check.due("38 is ahead of it", x.sure(1, 38, 0), -1);
        x = check.made("seats 8;");
        x.film(0, 2L);
        check.due("0 is the first", x.sure(1, 0, 0), 1);
    }

    static void oneByAllZeroByNone(Check check) {
        WaveRing x = toTheRight(check);
        for (int moment = 5; moment < 40; moment++) {
            for (int seat = 0; seat < 8; seat++) {
                check.due("sure(" + seat + ", " + moment + ")", x.sure(seat, moment, 0), seat == (moment - 5) % 8 ? 1 : 0);
            }
        }
    }

    /** By one film all laws fit: from seat 3 it goes one way, or the other, or nobody rises. */
    static void twoBySome(Check check) {
        WaveRing x = check.made("seats 7;");
        x.film(0, 8L);
        check.due("as all fit, seat 3 in moment 0", x.sure(3, 0, 0), 1);
        check.due("seat 2 in moment 0", x.sure(2, 0, 0), 0);
        check.due("seat 2 in moment 1", x.sure(2, 1, 0), 2);
        check.due("seat 4 in moment 1", x.sure(4, 1, 0), 2);
        check.due("seat 3 in moment 1, by up 2 and 3", x.sure(3, 1, 0), 2);
        check.due("seat 3 in moment 39", x.sure(3, 39, 0), 2);
    }

    static void bySomeIsMoreThanNoneAndLessThanAll(Check check) {
        // With the gap on the left of 0 both together fits too; with rest 0 it goes to and fro.
        WaveRing x = check.made("seats 8; gap 7 to 7;");
        x.film(5, 1L);
        x.film(6, 2L);
        check.due("seat 0 in moment 7", x.sure(0, 7, 0), 2);
        check.due("seat 2 in moment 7", x.sure(2, 7, 0), 1);
        check.due("seat 1 in moment 7", x.sure(1, 7, 0), 0);
    }

    static void oneLawAlone(Check check) {
        // Two waves with one seat between them: who is seen again in the second tenth does not rest.
        WaveRing x = check.made("seats 7;");
        x.film(0, 5L);
        x.film(1, 10L);
        x.film(2, 20L);
        check.due("one fits", x.fits(0), 1);
        check.due("it is 0", x.fit(0, 0), 0);
        check.due("seat 5 in moment 5", x.sure(5, 5, 0), 1);
        check.due("seat 0 in moment 5", x.sure(0, 5, 0), 1);
        check.due("seat 6 in moment 5", x.sure(6, 5, 0), 0);
    }

    static void inAGapNeverAndADearOneOnlyAtFirst(Check check) {
        WaveRing x = check.made("seats 8; gap 7 to 7; dear 0 to 0;");
        x.film(5, 1L);
        x.film(6, 2L);
        for (int moment = 5; moment < 40; moment++) {
            check.due("the gap in " + moment, x.sure(7, moment, 0), 0);
            check.due("the dear one in " + moment, x.sure(0, moment, 0), moment == 5 ? 1 : 0);
        }
    }

    /** Each seat and moment against all laws worked out one by one. */
    static void asAllLawsThatFitShow(Check check) {
        String[] rows = {"......", ".d....g....", "..........g"};
        for (String row : rows) {
            for (int seat = 0; seat < row.length(); seat++) {
                WaveRing x = check.made(PlainLaw.text(row));
                x.film(3, 6L);
                x.film(4, 12L);
                for (int moment = 3; moment < 40; moment += 4) {
                    check.due("seat " + seat + " in " + moment + " of " + row, x.sure(seat, moment, 0), sure(row, seat, moment));
                }
            }
        }
    }

    private static int sure(String row, int seat, int moment) {
        int fitting = 0;
        int up = 0;
        for (int law = 0; law < PlainLaw.LAWS; law++) {
            long[] shown = PlainLaw.shown(law, row, 6L, 40);
            if (shown[1] == 12L) {
                fitting++;
                up += shown[moment - 3] >> seat & 1;
            }
        }
        if (fitting == 0) {
            return -1;
        }
        return up == fitting ? 1 : up == 0 ? 0 : 2;
    }
}
