/** Promise 7: run, the shy ones and what is drawn (the second of the terms). */
public final class Promise07ShyTest {
    private static final int[] SEEDS = {1, 0, -1, 2, 77, 65535, 65536, 1 << 31, ~(1 << 31), -77, 123456789, -123456789};

    public static void main(String[] args) throws ReflectiveOperationException {
        Check.runTests(Promise07ShyTest.class);
    }

    private static int drawnOnce(int w) {
        return w * 1103515245 + 12345;
    }

    private static int drawOfTen(int w) {
        return (w >>> 16) % 10;
    }

    private static int drawnTimes(int w, int times) {
        int drawn = w;
        for (int i = 0; i < times; i++) {
            drawn = drawnOnce(drawn);
        }
        return drawn;
    }

    static void theFirstDrawsAreThese(Check check) {
        // 1103527590 >>> 16 is 16838, and -1770082073 >>> 16 is 38526.
        check.due("w", drawnOnce(1), 1103527590);
        check.due("draw", drawOfTen(1103527590), 8);
        check.due("w", drawnOnce(1103527590), -1770082073);
        check.due("draw", drawOfTen(-1770082073), 6);
        WaveRing x = check.made("seats 6; dear 0 to 3; law up 1 rest 0 sees 1 shy 7 when 1;");
        check.due("8 is not below 7, but 6 is", x.run(1), 1);
        check.due("states: seat by seat", Check.states(x), "0 0 0 0 1 0");
        check.due("w", x.about(7), -1770082073);
    }

    static void whoDrawsBelowShyDoesNotRise(Check check) {
        for (int shy = 0; shy <= 9; shy++) {
            WaveRing x = check.made("seats 6; dear 0 to 4; law up 1 rest 0 sees 1 shy " + shy + " when 1;");
            x.image(0);
            int w = 1;
            boolean[] drawn = new boolean[10];
            for (int i = 0; i < 120; i++) {
                int draw = drawOfTen(drawnOnce(w));
                drawn[draw] = true;
                x.back(0);
                x.seed(w);
                check.due("shy " + shy + ", draw " + draw, x.run(1), shy == 0 || draw >= shy ? 1 : 0);
                w = drawnOnce(drawnOnce(w)) + i;
            }
            for (int draw = 0; draw < 10; draw++) {
                check.due("each draw was made", drawn[draw], true);
            }
        }
    }

    static void wWrapsAndIsTakenWithoutItsSign(Check check) {
        for (int seed : SEEDS) {
            WaveRing x = check.made("seats 6; law up 1 rest 0 sees 1 shy 5 when 1;");
            x.seed(seed);
            x.run(1);
            int w = seed;
            for (int seat = 0; seat < 6; seat++) {
                w = drawnOnce(w);
                check.due("seed " + seed + ", seat " + seat, x.seat(seat, 0), drawOfTen(w) < 5 ? 0 : 1);
            }
            check.due("w", x.about(7), w);
        }
    }

    static void nothingIsDrawnIfShyIs0(Check check) {
        WaveRing x = check.made("seats 40; law up 1 rest 0 sees 1 shy 0 when 1;");
        x.run(400);
        check.due("w", x.about(7), 1);
        x = check.made("seats 40; law up 1 rest 0 sees 1 shy 1 when 1;");
        x.run(1);
        check.due("w if shy is 1", x.about(7), drawnTimes(1, 40));
    }

    static void onlyForThoseByWhomEIsNot0(Check check) {
        WaveRing x = check.tried("seats 9; few 0 to 0; few 4 to 4; law up 1 rest 3 sees 1 shy 5 when left+right>0;");
        x.run(1);
        check.due("1, 3, 5, 8 see one", x.about(7), drawnTimes(1, 4));
        x = check.made("seats 9; law up 1 rest 3 sees 1 shy 5 when 0;");
        x.run(400);
        check.due("nobody", x.about(7), 1);
    }

    static void onlyForThoseWhoSitAndAreNotDear(Check check) {
        WaveRing x = check.tried("seats 9; few 0 to 1; dear 2 to 3; gap 4 to 5; law up 1 rest 2 sees 1 shy 9 when 1;");
        x.run(1);
        check.due("6, 7, 8 sit", x.about(7), drawnTimes(1, 3));
        x = check.tried("seats 6; few 0 to 5; law up 1 rest 2 sees 1 shy 9 when 1;");
        x.run(3);
        check.due("all are up or rest", x.about(7), 1);
        x.run(1);
        check.due("all sit", x.about(7), drawnTimes(1, 6));
    }

    static void whoIsShySitsOnAndDrawsAgain(Check check) {
        WaveRing x = check.made("seats 6; dear 0 to 4; law up 1 rest 0 sees 1 shy 9 when 1;");
        int w = 1;
        int due = 0;
        int state = 0;
        for (int i = 0; i < 60; i++) {
            int rises = 0;
            if (state == 0) {
                w = drawnOnce(w);
                rises = drawOfTen(w) < 9 ? 0 : 1;
            }
            check.due("tenth " + (i + 1), x.run(1), rises);
            state = rises;
            due += rises;
        }
        check.due("rose", x.seat(5, 1), due);
        check.due("w", x.about(7), w);
        check.due("somebody rose", due > 0, true);
    }

    static void whoIsShyGoesNoWay(Check check) {
        WaveRing x = check.tried("seats 6; few 0 to 0; law up 1 rest 1 sees 1 shy 7 when left+right>0;");
        check.due("run(1): draws 8 and 6", x.run(1), 1);
        check.due("seat 1 rises to the right", x.way(0), 1);
        check.due("seat 5 does not", x.way(1), 0);
    }
}
