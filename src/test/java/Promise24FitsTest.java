/** Promise 24: fits, what is known at a time and which plain laws fit it (the fourth of the terms). */
public final class Promise24FitsTest {
    public static void main(String[] args) throws ReflectiveOperationException {
        Check.runTests(Promise24FitsTest.class);
    }

    static void withoutFilmsAllFit(Check check) {
        WaveRing x = check.made("seats 6;");
        int[] times = {0, 1, -1, Check.LEAST, Check.GREATEST};
        for (int k : times) {
            check.due("fits(" + k + ")", x.fits(k), 324);
        }
        check.due("with gaps alone", check.made("seats 6; gap 0 to 5;").fits(0), 324);
    }

    static void toldAtKOrBefore(Check check) {
        WaveRing x = check.made("seats 6;");
        x.later(3);
        x.film(0, 1L);
        x.film(1, 2L);
        check.due("known at least", x.fits(Check.LEAST), 324);
        check.due("known at -1", x.fits(-1), 324);
        check.due("known at 0", x.fits(0), 324);
        check.due("known at 2", x.fits(2), 324);
        check.due("known at 3", x.fits(3), 4);
        check.due("known at 4, which is to come", x.fits(4), 4);
        check.due("known at greatest", x.fits(Check.GREATEST), 4);
    }

    static void notUntoldAtKOrBefore(Check check) {
        WaveRing x = check.made("seats 6;");
        x.film(0, 1L);
        x.film(1, 2L);
        x.later(3);
        x.untell(0);
        check.due("known at 2", x.fits(2), 4);
        check.due("known at 3", x.fits(3), 324);
        check.due("known at 4", x.fits(4), 324);
        check.due("known at greatest", x.fits(Check.GREATEST), 324);
    }

    static void ofAMomentThatAloneThatWasToldLast(Check check) {
        WaveRing x = check.made("seats 6;");
        x.film(0, 1L);
        x.film(1, 2L);
        x.later(1);
        x.film(1, 32L);
        check.due("known at 0: to the right", x.fit(0, 0), PlainLaw.number(0, 1, 1, 1, 0));
        check.due("known at 1: to the left", x.fit(0, 1), PlainLaw.number(1, 1, 1, 1, 0));
        check.due("known at 1: four", x.fits(1), 4);
        x.later(1);
        x.film(1, 34L);
        check.due("known at 2: both ways", x.fit(0, 2), PlainLaw.number(2, 1, 1, 1, 0));
    }

    static void ofOneTimeTheLaterNumber(Check check) {
        WaveRing x = check.made("seats 6;");
        x.film(1, 32L);
        x.film(0, 8L);
        x.film(1, 2L);
        x.film(0, 1L);
        check.due("the third and the fourth", x.fit(0, 0), PlainLaw.number(0, 1, 1, 1, 0));
        check.due("four", x.fits(0), 4);
    }

    static void ifTheLastIsUntoldTheOneAheadOfItCountsAgain(Check check) {
        WaveRing x = check.made("seats 6;");
        x.film(0, 1L);
        x.film(1, 2L);
        x.film(1, 32L);
        x.later(1);
        x.untell(2);
        check.due("known at 0: to the left", x.fit(0, 0), PlainLaw.number(1, 1, 1, 1, 0));
        check.due("known at 1: to the right", x.fit(0, 1), PlainLaw.number(0, 1, 1, 1, 0));
    }

    static void oneFilmLetsAll(Check check) {
        int[] moments = {0, 17, 39};
        for (int moment : moments) {
            WaveRing x = check.made("seats 6;");
            x.film(moment, 21L);
            check.due("moment " + moment, x.fits(0), 324);
        }
        WaveRing x = check.made("seats 6;");
        x.film(5, 0L);
        check.due("one of nobody", x.fits(0), 324);
        x.film(9, 0L);
        check.due("from nobody nobody rises", x.fits(0), 324);
        x.film(8, 1L);
        check.due("never", x.fits(0), 0);
    }

    static void fromTheFirstMomentThatIsKnownOn(Check check) {
        WaveRing x = check.made("seats 6;");
        x.film(38, 1L);
        x.film(39, 2L);
        check.due("38 and 39", x.fits(0), 4);
        x.film(37, 32L);
        check.due("from 37 on one goes to the right", x.fit(0, 0), PlainLaw.number(0, 1, 1, 1, 0));
        x.later(1);
        x.film(0, 0L);
        check.due("from 0 on nobody is up", x.fits(1), 0);
        x.untell(3);
        check.due("and without it", x.fits(1) > 0, true);
    }

    static void inEachKnownMoment(Check check) {
        String row = "............";
        int law = PlainLaw.number(0, 2, 1, 2, 1);
        long[] films = PlainLaw.shown(law, row, 1L, 40);
        for (int wrong = 0; wrong < 40; wrong += 3) {
            WaveRing x = check.made(PlainLaw.text(row));
            for (int moment = 0; moment < 40; moment++) {
                x.film(moment, films[moment]);
            }
            check.due("it fits", PlainLaw.fits(x, law, 0), true);
            x.film(wrong, films[wrong] ^ 1L << 7);
            check.due("moment " + wrong + " is another", PlainLaw.fits(x, law, 0), false);
        }
    }

    static void momentsThatAreNotKnownAreFree(Check check) {
        String row = "............";
        int law = PlainLaw.number(1, 3, 2, 3, 2);
        long[] films = PlainLaw.shown(law, row, 7L, 40);
        WaveRing x = check.made(PlainLaw.text(row));
        x.film(0, films[0]);
        x.film(39, films[39]);
        check.due("0 and 39", PlainLaw.fits(x, law, 0), true);
        x.film(39, films[38]);
        check.due("not that of 38", PlainLaw.fits(x, law, 0), films[38] == films[39]);
    }

    static void oneWithSomebodyInAGapLetsNone(Check check) {
        WaveRing x = check.made("seats 8; gap 5 to 5;");
        x.film(3, 32L);
        check.due("in the first moment", x.fits(0), 0);
        x.later(1);
        x.film(3, 1L);
        check.due("told anew without", x.fits(1), 324);
        check.due("as known before", x.fits(0), 0);
        x.film(9, 33L);
        check.due("in a later moment", x.fits(1), 0);
        x.untell(2);
        x.film(2, 33L);
        check.due("in an earlier moment", x.fits(1), 0);
        x.untell(3);
        check.due("untold", x.fits(1), 324);
    }

    static void aDearOneCanBeUpAtFirstButDoesNotRise(Check check) {
        WaveRing x = check.made("seats 8; dear 2 to 2;");
        x.film(0, 4L);
        check.due("at first", x.fits(0), 324);
        x.film(1, 8L);
        check.due("it sets out", PlainLaw.fits(x, 0, 0), true);
        x = check.made("seats 8; dear 2 to 2;");
        x.film(0, 2L);
        x.film(1, 4L);
        check.due("it does not rise", x.fits(0), 0);
        x = check.made("seats 8; dear 2 to 2;");
        x.film(0, 2L);
        x.film(1, 0L);
        check.due("by those who see one seat nobody rises", PlainLaw.fits(x, PlainLaw.number(0, 1, 1, 1, 0), 0), true);
        check.due("by those who see two seat 3 does", PlainLaw.fits(x, PlainLaw.number(0, 2, 1, 1, 0), 0), false);
    }

    static void noFewerThanNeed(Check check) {
        long[] starts = {1L, 3L, 7L, 15L};
        for (int many = 1; many <= 4; many++) {
            WaveRing x = check.made("seats 12;");
            x.film(0, starts[many - 1]);
            x.film(1, 1L << many);
            for (int need = 1; need <= 3; need++) {
                boolean due = many >= need;
                // With sees as many as need, the seat behind the last one alone sees enough on its left.
                check.due(many + " are seen of " + need, PlainLaw.fits(x, PlainLaw.number(0, need, need, 1, 0), 0), due);
            }
        }
    }

    static void bothTogetherAreAdded(Check check) {
        WaveRing x = check.made("seats 9;");
        x.film(0, 5L);
        x.film(1, 2L);
        check.due("one on each side are two", PlainLaw.fits(x, PlainLaw.number(2, 1, 2, 1, 1), 0), true);
        check.due("not three", PlainLaw.fits(x, PlainLaw.number(2, 1, 3, 1, 1), 0), false);
        check.due("not one", PlainLaw.fits(x, PlainLaw.number(2, 1, 1, 1, 1), 0), false);
        check.due("the left alone", PlainLaw.fits(x, PlainLaw.number(0, 1, 1, 1, 1), 0), false);
        check.due("the right alone", PlainLaw.fits(x, PlainLaw.number(1, 1, 1, 1, 1), 0), false);
    }

    static void onSixSeatsTwoAreSeenAtTheMost(Check check) {
        WaveRing x = check.made("seats 6;");
        x.film(0, 1L);
        x.film(1, 6L);
        check.due("sees 2", PlainLaw.fits(x, PlainLaw.number(0, 2, 1, 1, 0), 0), true);
        check.due("sees 3 is as sees 2", PlainLaw.fits(x, PlainLaw.number(0, 3, 1, 1, 0), 0), true);
        x = check.made("seats 7;");
        x.film(0, 1L);
        x.film(1, 6L);
        check.due("on seven sees 3 is more", PlainLaw.fits(x, PlainLaw.number(0, 3, 1, 1, 0), 0), false);
    }

    /** Films that one law makes: just the laws that make the same fit. */
    static void justThoseLawsByWhichTheSameAreUp(Check check) {
        String[] rows = {"......", ".......", ".d....g....", "g..........d.", "........................................"};
        long[] starts = {1L, 3L, 5L, 2L, 7L};
        for (int i = 0; i < rows.length; i++) {
            for (int law = i; law < PlainLaw.LAWS; law += 7) {
                WaveRing x = check.made(PlainLaw.text(rows[i]));
                long[] films = PlainLaw.shown(law, rows[i], starts[i] << 1, 12);
                for (int moment = 0; moment < 12; moment++) {
                    x.film(moment, films[moment]);
                }
                int due = 0;
                for (int other = 0; other < PlainLaw.LAWS; other++) {
                    if (java.util.Arrays.equals(PlainLaw.shown(other, rows[i], starts[i] << 1, 12), films)) {
                        check.due("law " + other + " by films of " + law, x.fit(due, 0), other);
                        due++;
                    }
                }
                check.due("fits by films of " + law, x.fits(0), due);
            }
        }
    }

    static void theRingsOwnLawIsFree(Check check) {
        WaveRing x = check.made("seats 6; law up 9 rest 20 sees 9 shy 9 when 1;");
        x.film(0, 1L);
        x.film(1, 2L);
        check.due("four", x.fits(0), 4);
        x.run(9);
        check.due("four whatever was run", x.fits(0), 4);
    }
}
