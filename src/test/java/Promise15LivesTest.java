/** Promise 15: lives, and what FROM A FRESH RING is (the third of the terms). */
public final class Promise15LivesTest {
    public static void main(String[] args) throws ReflectiveOperationException {
        Check.runTests(Promise15LivesTest.class);
    }

    static void nIs1To12(Check check) {
        WaveRing x = check.made("seats 40; law up 3 rest 2 sees 1 shy 0 when 0;");
        int[] others = {0, -1, 13, 14, 40, Check.LEAST, Check.GREATEST};
        for (int n : others) {
            check.due("lives(0, " + n + ")", x.lives(0, n), -1);
        }
        for (int n = 1; n <= 12; n++) {
            check.due("lives(0, " + n + ")", x.lives(0, n), 3);
        }
    }

    static void nIsNotMoreThanThereAreSeats(Check check) {
        for (int seats = 6; seats <= 13; seats++) {
            WaveRing x = check.made("seats " + seats + "; law up 2 rest 2 sees 1 shy 0 when 0;");
            check.due("one less than " + seats, x.lives(0, seats - 1), seats - 1 <= 12 ? 2 : -1);
            check.due("all " + seats, x.lives(0, seats), seats <= 12 ? 2 : -1);
            check.due("one more than " + seats, x.lives(0, seats + 1), -1);
        }
    }

    static void xIsASeat(Check check) {
        int[] all = {6, 40};
        for (int seats : all) {
            WaveRing x = check.made("seats " + seats + "; law up 2 rest 2 sees 1 shy 0 when 0;");
            int[] others = {-1, seats, seats + 1, 64, Check.LEAST, Check.GREATEST};
            for (int seat : others) {
                check.due("lives(" + seat + ", 1)", x.lives(seat, 1), -1);
            }
            check.due("the first", x.lives(0, 1), 2);
            check.due("the last", x.lives(seats - 1, 1), 2);
        }
    }

    static void twoHundredIfThatIsLater(Check check) {
        String ahead = "seats 7; law up 1 rest 1 sees 1 shy 0 when left>0 and tenth<";
        check.due("198", check.made(ahead + "198;").lives(3, 1), 198);
        check.due("199", check.made(ahead + "199;").lives(3, 1), 199);
        check.due("200", check.made(ahead + "200;").lives(3, 1), 200);
        check.due("201", check.made(ahead + "201;").lives(3, 1), 200);
        check.due("never", check.made("seats 7; law up 1 rest 1 sees 1 shy 0 when left>0;").lives(3, 1), 200);
    }

    static void nSeatsFromXOnRound(Check check) {
        // From x on up to the dear one on seat 9: the last of the n sets out.
        WaveRing x = check.made("seats 10; dear 9 to 9; law up 1 rest 20 sees 1 shy 0 when left>0;");
        check.due("0 alone", x.lives(0, 1), 9);
        check.due("0 to 2", x.lives(0, 3), 7);
        check.due("8", x.lives(8, 1), 1);
        check.due("9 alone, round", x.lives(9, 1), 10);
        check.due("9 and 0", x.lives(9, 2), 9);
        check.due("8, 9, 0, 1", x.lives(8, 4), 7);
    }

    static void gapsAmongThemAreLeftOut(Check check) {
        WaveRing x = check.made("seats 14; dear 5 to 5; gap 9 to 10; law up 2 rest 3 sees 1 shy 0 when left>0;");
        check.due("gaps alone", x.lives(9, 1), 0);
        check.due("two gaps alone", x.lives(9, 2), 0);
        check.due("two gaps are two of three", x.lives(9, 3), 9);
        check.due("8 and the gaps", x.lives(8, 3), 2);
        check.due("8, the gaps, 11", x.lives(8, 4), 9);
        check.due("gaps on all seats", check.made("seats 6; gap 0 to 5;").lives(0, 6), 0);
    }

    static void dearOnesAmongThemTry(Check check) {
        WaveRing x = check.made("seats 10; dear 4 to 5; law up 1 rest 3 sees 1 shy 0 when left>0;");
        check.due("ahead of another dear one", x.lives(4, 1), 1);
        check.due("from the last dear one round to the first", x.lives(5, 1), 9);
    }

    static void inPlaceOfTheFew(Check check) {
        WaveRing x = check.made("seats 10; few 0 to 9; law up 1 rest 3 sees 1 shy 0 when left>0;");
        check.due("one alone goes round", x.lives(4, 1), 200);
        x = check.made("seats 10; few 2 to 2; law up 1 rest 0 sees 1 shy 0 when ups=2;");
        check.due("two are up, not three", x.lives(4, 2) > 1, true);
    }

    static void fromAFreshRing(Check check) {
        String text = "seats 10; few 0 to 9; dear 8 to 8; law up 2 rest 9 sees 1 shy 0 when left>0 and rose=0 and tenth<5;";
        WaveRing x = check.tried(text);
        x.run(30);
        x.tryNow();
        check.due("all sit, none rose, from tenth 1 on", x.lives(0, 1), check.made(text).lives(0, 1));
        check.due("in four tenths four rise, and the last is up for two", x.lives(0, 1), 6);
    }

    static void nothingOfAnotherLifeShows(Check check) {
        WaveRing x = check.made("seats 10; gap 9 to 9; law up 1 rest 0 sees 2 shy 0 when left>0 and (ups=1 or tenth>1);");
        for (int i = 0; i < 3; i++) {
            check.due("for ever", x.lives(0, 1), 200);
            check.due("then from a gap", x.lives(9, 1), 0);
            check.due("for ever", x.lives(5, 1), 200);
            check.due("for ever once more", x.lives(0, 1), 200);
        }
    }

    static void slackIsOfTheTenthsFrom1On(Check check) {
        WaveRing x = check.made("seats 7; slack 1 to 4 by 2; slack 3 to 20 by 1; "
            + "law up 1 rest 0 sees 1 shy 0 when left>0 and slack;");
        check.due("twenty rise", x.lives(0, 1), 21);
        x.run(9);
        check.due("now, too", x.lives(0, 1), 21);
    }

    /** "had tried": one TRY, by which asked is 1 and rose of each who tried too. */
    static void theyHaveTriedOnce(Check check) {
        WaveRing x = check.tried("seats 7; few 2 to 2; law up 1 rest 1 sees 1 shy 0 when left>0 and asked=1 and tenth<50;");
        x.tryNow();
        check.due("asked is 1", x.lives(3, 1), 50);
        x = check.made("seats 7; law up 1 rest 0 sees 1 shy 0 when left>0 and rose=0;");
        check.due("rose is 1 of who tried", x.lives(0, 1), 7);
    }

    static void asIfShyWere0(Check check) {
        for (int shy = 0; shy <= 9; shy++) {
            WaveRing x = check.made("seats 9; dear 6 to 6; law up 1 rest 2 sees 1 shy " + shy + " when left>0;");
            check.due("shy " + shy, x.lives(0, 1), 6);
            check.due("nothing is drawn", x.about(7), 1);
        }
    }

    static void allStaysAsItWas(Check check) {
        WaveRing x = check.tried("seats 8; few 0 to 1; law up 2 rest 2 sees 2 shy 3 when left>0 or right>1;");
        x.run(2);
        String before = Check.everything(x);
        x.lives(3, 2);
        check.due("all", Check.everything(x), before);
    }
}
