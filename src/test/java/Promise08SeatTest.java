/** Promise 8: seat. */
public final class Promise08SeatTest {
    public static void main(String[] args) throws ReflectiveOperationException {
        Check.runTests(Promise08SeatTest.class);
    }

    static void noneIfThereIsNoSuchSeat(Check check) {
        int[] all = {6, 24, 40};
        for (int seats : all) {
            WaveRing x = check.made("seats " + seats + ";");
            int[] others = {-1, seats, seats + 1, 63, 64, Check.LEAST, Check.GREATEST};
            for (int what = 0; what < 4; what++) {
                check.due("the first, what " + what, x.seat(0, what), 0);
                check.due("the last, what " + what, x.seat(seats - 1, what), 0);
                for (int seat : others) {
                    check.due("seat(" + seat + ", " + what + ")", x.seat(seat, what), -1);
                }
            }
        }
    }

    static void noneForAnotherWhat(Check check) {
        WaveRing x = check.made("seats 6; gap 1 to 1; dear 2 to 2; few 3 to 3;");
        int[] others = {-1, 4, 5, Check.LEAST, Check.GREATEST};
        for (int seat = -1; seat <= 6; seat++) {
            for (int what : others) {
                check.due("seat(" + seat + ", " + what + ")", x.seat(seat, what), -1);
            }
        }
    }

    static void what0Is0Sits1To9Up(Check check) {
        WaveRing x = check.made("seats 6; few 0 to 0; law up 9 rest 0 sees 1 shy 0 when 0;");
        check.due("it sits", x.seat(0, 0), 0);
        x.tryNow();
        for (int state = 1; state <= 9; state++) {
            check.due("up", x.seat(0, 0), state);
            x.run(1);
        }
        check.due("it sits", x.seat(0, 0), 0);
    }

    static void what0Is10AndTheTenthOfRest(Check check) {
        WaveRing x = check.tried("seats 6; few 0 to 0; law up 1 rest 20 sees 1 shy 0 when 0;");
        for (int state = 11; state <= 30; state++) {
            x.run(1);
            check.due("at rest", x.seat(0, 0), state);
        }
        x.run(1);
        check.due("it sits", x.seat(0, 0), 0);
    }

    static void what0Is40OfAGapAlways(Check check) {
        WaveRing x = check.made("seats 6; gap 0 to 0; gap 5 to 5; few 0 to 5; law up 1 rest 1 sees 1 shy 0 when 1;");
        check.due("at first", Check.states(x), "40 0 0 0 0 40");
        x.tryNow();
        check.due("behind a try", Check.states(x), "40 1 1 1 1 40");
        x.run(1);
        check.due("behind a tenth", Check.states(x), "40 11 11 11 11 40");
        x.run(2);
        check.due("behind two more", Check.states(x), "40 1 1 1 1 40");
    }

    static void what1IsRose(Check check) {
        WaveRing x = check.made("seats 6; gap 1 to 1; dear 2 to 2; few 0 to 2; law up 1 rest 0 sees 1 shy 0 when 1;");
        check.due("at first", Check.answers(x, 1), "0 0 0 0 0 0");
        x.tryNow();
        check.due("behind a try", Check.answers(x, 1), "1 0 1 0 0 0");
        x.run(1);
        check.due("behind a tenth", Check.answers(x, 1), "1 0 1 1 1 1");
        x.run(1);
        check.due("behind two", Check.answers(x, 1), "2 0 1 1 1 1");
    }

    static void what2Is1IfDear2IfAGapElse0(Check check) {
        WaveRing x = check.made("seats 9; dear 0 to 1; dear 4 to 6; gap 1 to 2; gap 5 to 5; dear 2 to 2; few 0 to 8;");
        check.due("what 2", Check.answers(x, 2), "1 2 2 0 1 2 1 0 0");
        x.tryNow();
        x.run(2);
        check.due("it stays", Check.answers(x, 2), "1 2 2 0 1 2 1 0 0");
        check.due("none is told", Check.answers(check.made("seats 6;"), 2), "0 0 0 0 0 0");
    }

    static void what3Is1IfOneOfTheFewElse0(Check check) {
        WaveRing x = check.made("seats 9; few 0 to 0; few 3 to 4; few 8 to 8; dear 3 to 3;");
        check.due("what 3", Check.answers(x, 3), "1 0 0 1 1 0 0 0 1");
        x.tryNow();
        x.run(3);
        check.due("it stays", Check.answers(x, 3), "1 0 0 1 1 0 0 0 1");
        check.due("none is told", Check.answers(check.made("seats 6;"), 3), "0 0 0 0 0 0");
    }
}
