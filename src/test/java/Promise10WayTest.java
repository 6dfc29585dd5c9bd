/** Promise 10: way. */
public final class Promise10WayTest {
    public static void main(String[] args) throws ReflectiveOperationException {
        Check.runTests(Promise10WayTest.class);
    }

    private static void waysAre(Check check, WaveRing x, int right, int left, int neither) {
        check.due("way(0)", x.way(0), right);
        check.due("way(1)", x.way(1), left);
        check.due("way(2)", x.way(2), neither);
    }

    static void noneForAnotherWhat(Check check) {
        WaveRing x = check.made("seats 6; law up 1 rest 0 sees 1 shy 0 when 1;");
        x.run(1);
        int[] others = {-1, 3, 4, Check.LEAST, Check.GREATEST};
        for (int what : others) {
            check.due("way(" + what + ")", x.way(what), -1);
        }
    }

    static void toTheRightIfLeftIsAbove0AndRightIs0(Check check) {
        WaveRing x = check.tried("seats 9; few 0 to 0; law up 1 rest 9 sees 1 shy 0 when left>0;");
        x.run(1);
        waysAre(check, x, 1, 0, 0);
        x.run(2);
        waysAre(check, x, 3, 0, 0);
    }

    static void toTheLeftIfItIsTheOtherWay(Check check) {
        WaveRing x = check.tried("seats 9; few 0 to 0; law up 1 rest 9 sees 1 shy 0 when right>0;");
        x.run(1);
        waysAre(check, x, 0, 1, 0);
        x.run(2);
        waysAre(check, x, 0, 3, 0);
    }

    static void inNeitherWayIfBothAreAbove0(Check check) {
        WaveRing x = check.tried("seats 9; few 0 to 0; few 2 to 2; law up 1 rest 9 sees 1 shy 0 when left>0 and right>0;");
        x.run(1);
        waysAre(check, x, 0, 0, 1);
    }

    static void inNeitherWayIfBothAre0(Check check) {
        WaveRing x = check.made("seats 6; law up 1 rest 0 sees 1 shy 0 when tenth=1;");
        x.run(1);
        waysAre(check, x, 0, 0, 6);
    }

    static void theBoundIsWhatOneSees(Check check) {
        WaveRing x = check.tried("seats 9; few 0 to 0; few 4 to 4; law up 1 rest 9 sees 2 shy 0 when left>0 or right>0;");
        x.run(1);
        // 1 sees 0, 5 and 6 see 4 on their left; 3 sees 4, 7 and 8 see 0 on their right; 2 sees both.
        waysAre(check, x, 3, 3, 1);
    }

    static void onlyThoseUpForThe1stTenthCount(Check check) {
        WaveRing x = check.tried("seats 9; few 0 to 0; law up 3 rest 9 sees 1 shy 0 when tenth=2;");
        x.run(2);
        waysAre(check, x, 0, 0, 8);
    }

    static void theWayIsOfHowItWasAheadOfTheTenth(Check check) {
        WaveRing x = check.tried("seats 9; few 0 to 0; law up 1 rest 9 sees 1 shy 0 when tenth=1;");
        x.run(1);
        waysAre(check, x, 1, 1, 6);
    }

    static void triesAreNone(Check check) {
        WaveRing x = check.tried("seats 9; few 0 to 0; few 1 to 1; law up 1 rest 0 sees 1 shy 0 when 0;");
        x.run(3);
        x.tryNow();
        waysAre(check, x, 0, 0, 0);
    }

    static void sinceTheRingWasFresh(Check check) {
        String text = "seats 9; few 0 to 0; law up 1 rest 2 sees 1 shy 0 when left>0;";
        WaveRing x = check.tried(text);
        x.run(400);
        waysAre(check, x, 400, 0, 0);
        x.tryNow();
        x.run(0);
        waysAre(check, x, 400, 0, 0);
        Check.tell(x, text);
        waysAre(check, x, 0, 0, 0);
    }

    static void whatComesGoesNoWay(Check check) {
        WaveRing x = check.tried("seats 9; few 0 to 0; law up 1 rest 2 sees 1 shy 0 when left>0;");
        x.till(3, 3);
        x.dies();
        x.lives(0, 1);
        x.meet(0, 3, 1);
        x.would();
        waysAre(check, x, 0, 0, 0);
    }
}
