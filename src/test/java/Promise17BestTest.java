/** Promise 17: best. */
public final class Promise17BestTest {
    public static void main(String[] args) throws ReflectiveOperationException {
        Check.runTests(Promise17BestTest.class);
    }

    static void nIs1To12(Check check) {
        WaveRing x = check.made("seats 40; law up 3 rest 2 sees 1 shy 0 when 0;");
        for (int what = 0; what < 2; what++) {
            check.due("best(1, " + what + ")", x.best(1, what), what * 3);
            check.due("best(12, " + what + ")", x.best(12, what), what * 3);
            int[] others = {0, -1, 13, 40, Check.LEAST, Check.GREATEST};
            for (int n : others) {
                check.due("best(" + n + ", " + what + ")", x.best(n, what), -1);
            }
        }
    }

    static void nIsNotMoreThanThereAreSeats(Check check) {
        for (int seats = 6; seats <= 12; seats++) {
            WaveRing x = check.made("seats " + seats + "; law up 2 rest 2 sees 1 shy 0 when 0;");
            check.due("all " + seats, x.best(seats, 1), 2);
            check.due("all " + seats, x.best(seats, 0), 0);
            check.due("one more", x.best(seats + 1, 1), -1);
            check.due("one more", x.best(seats + 1, 0), -1);
        }
    }

    static void noneForAnotherWhat(Check check) {
        WaveRing x = check.made("seats 6;");
        int[] others = {-1, 2, 3, Check.LEAST, Check.GREATEST};
        for (int what : others) {
            check.due("best(1, " + what + ")", x.best(1, what), -1);
        }
    }

    static void theXByWhichItLivesLongest(Check check) {
        for (int dear = 0; dear < 10; dear++) {
            WaveRing x = check.made("seats 10; dear " + dear + " to " + dear + "; law up 1 rest 3 sees 1 shy 0 when left>0;");
            check.due("the dear one itself sets out, " + dear, x.best(1, 0), dear);
            check.due("nine seats", x.best(1, 1), 10);
            check.due("of two that one is the last", x.best(2, 0), (dear + 9) % 10);
            check.due("nine seats", x.best(2, 1), 10);
        }
    }

    static void ofLikeOnesTheLeast(Check check) {
        WaveRing x = check.made("seats 10; law up 1 rest 3 sees 1 shy 0 when left>0;");
        check.due("all live for ever", x.best(1, 0), 0);
        check.due("200", x.best(1, 1), 200);
        x = check.made("seats 10; gap 0 to 2; gap 5 to 6; law up 1 rest 0 sees 1 shy 0 when left>0;");
        check.due("from 7 on three", x.best(1, 0), 7);
        check.due("live", x.best(1, 1), 3);
        x = check.made("seats 10; gap 0 to 0; gap 5 to 5; law up 1 rest 0 sees 1 shy 0 when left>0;");
        check.due("from 1 on and from 6 on: 1", x.best(1, 0), 1);
        check.due("live", x.best(1, 1), 4);
        x = check.made("seats 8; gap 0 to 2; law up 1 rest 0 sees 1 shy 0 when left+right>0;");
        check.due("the first by which it goes to and fro", x.best(1, 0), 3);
        check.due("live", x.best(1, 1), 200);
    }

    static void gapsAloneLive0(Check check) {
        WaveRing x = check.made("seats 6; gap 0 to 5;");
        check.due("best(1, 0)", x.best(1, 0), 0);
        check.due("best(1, 1)", x.best(1, 1), 0);
    }

    static void atMost200(Check check) {
        String ahead = "seats 8; law up 1 rest 1 sees 1 shy 0 when left>0 and tenth<";
        check.due("199", check.made(ahead + "199;").best(1, 1), 199);
        check.due("200", check.made(ahead + "200;").best(1, 1), 200);
        check.due("201", check.made(ahead + "201;").best(1, 1), 200);
    }

    /** On 1 to 3 two and one are up by turns, on 5 to 8 always two: they live on when the others die. */
    static void oneWhoLives200BehindOnesWhoLive198And199(Check check) {
        WaveRing x = check.made("seats 10; gap 0 to 0; gap 4 to 4; gap 9 to 9; "
            + "law up 1 rest 0 sees 1 shy 0 when left+right>0 and (tenth<198 or ups=2);");
        check.due("lives(1, 1)", x.lives(1, 1), 198);
        check.due("lives(2, 1)", x.lives(2, 1), 199);
        check.due("best(1, 0)", x.best(1, 0), 5);
        check.due("best(1, 1)", x.best(1, 1), 200);
    }

    static void allStaysAsItWas(Check check) {
        WaveRing x = check.tried("seats 8; few 0 to 1; law up 2 rest 2 sees 2 shy 3 when left>0 or right>1;");
        x.run(2);
        String before = Check.everything(x);
        x.best(3, 0);
        check.due("all", Check.everything(x), before);
    }
}
