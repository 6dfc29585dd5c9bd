/** Promise 16: fewest. */
public final class Promise16FewestTest {
    public static void main(String[] args) throws ReflectiveOperationException {
        Check.runTests(Promise16FewestTest.class);
    }

    static void xIsASeat(Check check) {
        int[] all = {6, 40};
        for (int seats : all) {
            WaveRing x = check.made("seats " + seats + "; law up 1 rest 0 sees 1 shy 0 when left>0;");
            int[] others = {-1, seats, seats + 1, 64, Check.LEAST, Check.GREATEST};
            for (int seat : others) {
                check.due("fewest(" + seat + ")", x.fewest(seat), -1);
            }
            check.due("the first", x.fewest(0), 1);
            check.due("the last", x.fewest(seats - 1), 1);
        }
    }

    /** With n up the others rise if n is above the bound, and from then on all by turns. */
    static void theLeastOf1To12(Check check) {
        for (int above = 0; above <= 14; above++) {
            WaveRing x = check.made("seats 40; law up 1 rest 0 sees 1 shy 0 when ups>" + above + ";");
            int due = above + 1 <= 12 ? above + 1 : -1;
            check.due("ups>" + above, x.fewest(0), due);
            check.due("round", x.fewest(35), due);
        }
    }

    static void notMoreThanThereAreSeats(Check check) {
        for (int seats = 7; seats <= 12; seats++) {
            int but = seats - 1;
            String ahead = "seats " + seats + "; law up 1 rest 0 sees 1 shy 0 when ";
            WaveRing x = check.made(ahead + "ups=" + but + " or ups=1 and tenth>1;");
            check.due("all but one of " + seats, x.fewest(3), but);
            x = check.made(ahead + "ups=" + seats + " or tenth>1 and ups;");
            check.due("with all of " + seats + " there is nobody who sits", x.fewest(3), -1);
        }
    }

    static void livesOf199AreNotEnough(Check check) {
        String ahead = "seats 8; law up 1 rest 1 sees 1 shy 0 when left>0 and tenth<";
        check.due("199", check.made(ahead + "199;").fewest(0), -1);
        check.due("200", check.made(ahead + "200;").fewest(0), 1);
        check.due("201", check.made(ahead + "201;").fewest(0), 1);
    }

    static void moreAreNotAlwaysBetter(Check check) {
        WaveRing x = check.made("seats 12; law up 1 rest 0 sees 1 shy 0 when ups=3 or ups=9;");
        check.due("three alone", x.fewest(0), 3);
        check.due("four do not live", x.lives(0, 4), 1);
    }

    static void gapsAmongThemAreLeftOut(Check check) {
        WaveRing x = check.made("seats 20; gap 1 to 2; law up 1 rest 3 sees 3 shy 0 when left>0;");
        check.due("from a gap on", x.fewest(1), 3);
        check.due("from the last gap on", x.fewest(2), 2);
        check.due("ahead of them", x.fewest(0), 1);
    }

    static void noneIfNoneDoes(Check check) {
        WaveRing x = check.made("seats 20; dear 7 to 8; law up 1 rest 3 sees 2 shy 0 when left>0;");
        for (int seat = 0; seat < 20; seat++) {
            check.due("fewest(" + seat + ")", x.fewest(seat), -1);
        }
        check.due("gaps alone", check.made("seats 6; gap 0 to 5;").fewest(0), -1);
    }

    static void allStaysAsItWas(Check check) {
        WaveRing x = check.tried("seats 8; few 0 to 1; law up 2 rest 2 sees 2 shy 3 when left>0 or right>1;");
        x.run(2);
        String before = Check.everything(x);
        x.fewest(3);
        check.due("all", Check.everything(x), before);
    }
}
