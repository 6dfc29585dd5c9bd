/** Promise 19: meet. */
public final class Promise19MeetTest {
    private static final String ROUND = "law up 1 rest 2 sees 1 shy 0 when left>0;";

    public static void main(String[] args) throws ReflectiveOperationException {
        Check.runTests(Promise19MeetTest.class);
    }

    static void xAndYAreSeats(Check check) {
        int[] all = {6, 40};
        for (int seats : all) {
            WaveRing x = check.made("seats " + seats + "; law up 1 rest 0 sees 1 shy 0 when left>0;");
            int[] others = {-1, seats, seats + 1, 64, Check.LEAST, Check.GREATEST};
            for (int seat : others) {
                check.due("meet(" + seat + ", 0, 1)", x.meet(seat, 0, 1), -1);
                check.due("meet(0, " + seat + ", 1)", x.meet(0, seat, 1), -1);
            }
            check.due("the first and the last: side by side", x.meet(0, seats - 1, 1), 1);
            check.due("the last and the first", x.meet(seats - 1, 0, 1), 1);
            check.due("one between them", x.meet(seats - 1, 1, 1), 2);
        }
    }

    static void nIs1To12AndNotMoreThanThereAreSeats(Check check) {
        WaveRing x = check.made("seats 40; law up 1 rest 0 sees 1 shy 0 when left>0;");
        int[] others = {0, -1, 13, 40, Check.LEAST, Check.GREATEST};
        for (int n : others) {
            check.due("meet(0, 20, " + n + ")", x.meet(0, 20, n), -1);
        }
        check.due("by 1", x.meet(0, 20, 1), 2);
        check.due("by 12", x.meet(0, 20, 12), 2);
        for (int seats = 6; seats <= 12; seats++) {
            x = check.made("seats " + seats + "; law up 1 rest 0 sees 1 shy 0 when left>0;");
            check.due("by all of " + seats + ": nobody is left", x.meet(0, 3, seats), 0);
            check.due("by one more", x.meet(0, 3, seats + 1), -1);
        }
    }

    static void behind60Tenths(Check check) {
        String ahead = "seats 30; law up 1 rest 2 sees 1 shy 0 when left>0 and tenth<";
        check.due("they rise in 59", check.made(ahead + "60;").meet(0, 15, 1), 0);
        check.due("they rise in 60", check.made(ahead + "61;").meet(0, 15, 1), 2);
        check.due("they rise in 61", check.made(ahead + "62;").meet(0, 15, 1), 2);
        ahead = "seats 30; law up 1 rest 0 sees 1 shy 0 when tenth=";
        check.due("all rise in the 59th", check.made(ahead + "59;").meet(0, 15, 1), 0);
        check.due("all rise in the 60th", check.made(ahead + "60;").meet(0, 15, 1), 1);
        check.due("all rise in the 61st", check.made(ahead + "61;").meet(0, 15, 1), 0);
    }

    static void oneAndTheSame(Check check) {
        WaveRing x = check.made("seats 30; " + ROUND);
        check.due("meet(7, 7, 1)", x.meet(7, 7, 1), 1);
        check.due("meet(7, 7, 3)", x.meet(7, 7, 3), 1);
        check.due("they overlap", x.meet(7, 8, 3), 1);
        check.due("they are side by side", x.meet(3, 5, 2), 1);
    }

    static void nFromXAndNFromYRound(Check check) {
        WaveRing x = check.made("seats 30; law up 1 rest 0 sees 1 shy 0 when left>0;");
        check.due("28 to 1 and 10 to 13", x.meet(28, 10, 4), 2);
        check.due("28 to 1 and 2 to 5", x.meet(28, 2, 4), 1);
        check.due("28 to 1 and 3 to 6", x.meet(28, 3, 4), 2);
    }

    static void twoThatMeetDie(Check check) {
        WaveRing x = check.made("seats 30; law up 1 rest 2 sees 1 shy 0 when left>0 or right>0;");
        check.due("both go both ways", x.meet(0, 15, 1), 0);
    }

    static void gapsAmongThemAreLeftOut(Check check) {
        WaveRing x = check.made("seats 30; gap 14 to 15; law up 1 rest 0 sees 3 shy 0 when left>0 and right=0;");
        check.due("gaps alone", x.meet(14, 15, 1), 0);
        x = check.made("seats 12; gap 4 to 4; law up 1 rest 0 sees 2 shy 0 when left>1 or left=1 and right=0;");
        check.due("one of them a gap is as the other alone", x.meet(4, 8, 1), x.meet(8, 8, 1));
    }

    static void theyHaveTriedAtOnceFromAFreshRing(Check check) {
        WaveRing x = check.tried("seats 30; few 0 to 29; law up 1 rest 2 sees 1 shy 0 when left>0 and asked=1;");
        x.run(9);
        x.tryNow();
        check.due("one TRY", x.meet(0, 15, 1), 2);
    }

    static void asIfShyWere0AndAllStays(Check check) {
        WaveRing x = check.tried("seats 30; few 0 to 1; law up 1 rest 2 sees 1 shy 9 when left>0;");
        x.run(2);
        String before = Check.everything(x);
        check.due("meet", x.meet(0, 15, 1), 2);
        check.due("all", Check.everything(x), before);
    }
}
