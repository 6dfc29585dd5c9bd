/** Promise 18: jumps. */
public final class Promise18JumpsTest {
    /** By turns one seat and all others are up, as long as two of them are not dear. */
    private static final String TURNS = "law up 1 rest 0 sees 1 shy 0 when 1;";

    public static void main(String[] args) throws ReflectiveOperationException {
        Check.runTests(Promise18JumpsTest.class);
    }

    static void xYAndNAreAsTheyCanBe(Check check) {
        int[] all = {6, 40};
        for (int seats : all) {
            WaveRing x = check.made("seats " + seats + "; law up 1 rest 1 sees 2 shy 0 when left>0;");
            int[] others = {-1, seats, seats + 1, 64, Check.LEAST, Check.GREATEST};
            for (int seat : others) {
                check.due("jumps(" + seat + ", 1, 3)", x.jumps(seat, 1, 3), -1);
                check.due("jumps(0, 1, " + seat + ")", x.jumps(0, 1, seat), -1);
            }
            int last = seats - 1;
            check.due("from the first at the last", x.jumps(0, 1, last), 1);
            check.due("from the last at the first", x.jumps(last, 1, 0), 1);
        }
    }

    static void nIs1To12AndNotMoreThanThereAreSeats(Check check) {
        WaveRing x = check.made("seats 40; law up 1 rest 1 sees 2 shy 0 when left>0;");
        int[] others = {0, -1, 13, Check.LEAST, Check.GREATEST};
        for (int n : others) {
            check.due("jumps(0, " + n + ", 20)", x.jumps(0, n, 20), -1);
        }
        check.due("by 1", x.jumps(0, 1, 20), 1);
        check.due("by 12", x.jumps(0, 12, 20), 1);
        x = check.made("seats 8; " + TURNS);
        check.due("by 7 of 8", x.jumps(0, 7, 4), 3);
        check.due("by 8 of 8: nobody sits who could rise", x.jumps(0, 8, 4), -1);
        check.due("by 9 of 8", x.jumps(0, 9, 4), -1);
    }

    static void whoSeesNSeatsSeesAcrossOneLess(Check check) {
        for (int sees = 1; sees <= 9; sees++) {
            WaveRing x = check.made("seats 40; law up 1 rest 3 sees " + sees + " shy 0 when left>0;");
            check.due("sees " + sees, x.jumps(0, 1, 20), sees - 1);
        }
    }

    static void noneIfNotWith0(Check check) {
        WaveRing x = check.made("seats 40; law up 1 rest 3 sees 9 shy 0 when left>0 and tenth<199;");
        check.due("it lives 199 with 0", x.jumps(0, 1, 20), -1);
        x = check.made("seats 40; law up 1 rest 3 sees 9 shy 0 when left>0 and tenth<200;");
        check.due("it lives 200 with 0", x.jumps(0, 1, 20), 8);
        x = check.made("seats 20; law up 1 rest 0 sees 1 shy 0 when tenth=1 or ups>0 and ups<19;");
        check.due("it would live with one more dear", check.made("seats 20; dear 5 to 5; "
            + "law up 1 rest 0 sees 1 shy 0 when tenth=1 or ups>0 and ups<19;").lives(0, 1), 200);
        check.due("but does not with 0", x.jumps(0, 1, 5), -1);
    }

    static void zeroIfWithNoneOf1To9(Check check) {
        WaveRing x = check.made("seats 40; law up 1 rest 2 sees 1 shy 0 when left>0;");
        check.due("jumps", x.jumps(0, 1, 20), 0);
    }

    static void nineAtTheMost(Check check) {
        for (int seats = 6; seats <= 14; seats++) {
            // From 2 on round: as soon as all but one are in the block nobody lives on.
            int due = Math.min(9, seats - 2);
            WaveRing x = check.made("seats " + seats + "; " + TURNS);
            check.due(seats + " seats", x.jumps(1, 1, 2), due);
        }
    }

    static void theGreatestThoughItDiesWithLess(Check check) {
        String law = "law up 1 rest 0 sees 1 shy 0 when tenth=1 or ups>0 and (ups<12 or ups=19);";
        WaveRing x = check.made("seats 20; " + law);
        check.due("with 0", x.lives(0, 1), 200);
        check.due("with 1", check.made("seats 20; dear 1 to 1; " + law).lives(0, 1), 2);
        check.due("with 7", check.made("seats 20; dear 1 to 7; " + law).lives(0, 1), 2);
        check.due("with 8", check.made("seats 20; dear 1 to 8; " + law).lives(0, 1), 200);
        check.due("jumps", x.jumps(0, 1, 1), 9);
    }

    static void theBlockGoesRound(Check check) {
        WaveRing x = check.made("seats 40; law up 1 rest 2 sees 9 shy 0 when left>0;");
        check.due("from 38 on", x.jumps(5, 1, 38), 8);
        check.due("from 39 on", x.jumps(5, 1, 39), 8);
    }

    static void besidesAllOthers(Check check) {
        WaveRing x = check.made("seats 40; dear 18 to 19; law up 1 rest 3 sees 9 shy 0 when left>0;");
        check.due("two dear ones ahead of it", x.jumps(0, 1, 20), 6);
        check.due("over them", x.jumps(0, 1, 18), 8);
        check.due("across one of them", x.jumps(0, 1, 19), 7);
        check.due("elsewhere", x.jumps(0, 1, 30), 8);
    }

    static void gapsInTheBlockAreOfIt(Check check) {
        WaveRing x = check.made("seats 40; gap 21 to 22; law up 1 rest 3 sees 9 shy 0 when left>0;");
        check.due("from 20 on", x.jumps(0, 1, 20), 8);
    }

    static void thoseOfTheNCanTryStill(Check check) {
        WaveRing x = check.made("seats 12; law up 2 rest 1 sees 3 shy 0 when left>0;");
        check.due("the block is on them", x.jumps(4, 2, 4), 2);
        x = check.made("seats 40; law up 1 rest 3 sees 9 shy 0 when left>0;");
        check.due("and on the one alone", x.jumps(4, 1, 4), 8);
    }

    static void asIfShyWere0AndAllStays(Check check) {
        WaveRing x = check.tried("seats 12; few 0 to 1; law up 1 rest 1 sees 3 shy 9 when left>0;");
        x.run(2);
        String before = Check.everything(x);
        check.due("jumps", x.jumps(0, 1, 6), 2);
        check.due("all", Check.everything(x), before);
    }
}
