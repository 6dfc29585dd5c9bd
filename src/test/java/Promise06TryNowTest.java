/** Promise 6: tryNow, a TRY. */
public final class Promise06TryNowTest {
    public static void main(String[] args) throws ReflectiveOperationException {
        Check.runTests(Promise06TryNowTest.class);
    }

    static void withoutFewItIsATryAllTheSame(Check check) {
        WaveRing x = check.made("seats 6;");
        check.due("tryNow()", x.tryNow(), 0);
        check.due("asked", x.about(2), 1);
        check.due("tryNow()", x.tryNow(), 0);
        check.due("asked", x.about(2), 2);
        check.due("states", Check.states(x), "0 0 0 0 0 0");
    }

    static void allFewAreUpAtOnce(Check check) {
        WaveRing x = check.made("seats 7; few 0 to 0; few 3 to 4; few 6 to 6;");
        check.due("tryNow()", x.tryNow(), 4);
        check.due("states: the first tenth", Check.states(x), "1 0 0 1 1 0 1");
        check.due("rose", Check.answers(x, 1), "1 0 0 1 1 0 1");
        check.due("asked", x.about(2), 1);
        check.due("ups", x.about(3), 4);
        check.due("no tenth went by", x.about(1), 0);
        check.due("all of 40", check.made("seats 40; few 0 to 39;").tryNow(), 40);
    }

    static void oneWhoIsToldTwiceIsOne(Check check) {
        WaveRing x = check.made("seats 6; few 1 to 3; few 2 to 4;");
        check.due("tryNow()", x.tryNow(), 4);
        check.due("rose", Check.answers(x, 1), "0 1 1 1 1 0");
    }

    static void dearOnesTryToo(Check check) {
        WaveRing x = check.made("seats 6; few 1 to 2; dear 0 to 1;");
        check.due("tryNow()", x.tryNow(), 2);
        check.due("states", Check.states(x), "0 1 1 0 0 0");
    }

    static void inAGapNobodyTries(Check check) {
        WaveRing x = check.made("seats 6; few 0 to 5; gap 0 to 0; gap 3 to 3; gap 5 to 5;");
        check.due("tryNow()", x.tryNow(), 3);
        check.due("states", Check.states(x), "40 1 1 40 1 40");
        check.due("rose", Check.answers(x, 1), "0 1 1 0 1 0");
        check.due("gaps alone", check.made("seats 6; few 0 to 5; gap 0 to 5;").tryNow(), 0);
    }

    /** Up 2, rest 2: states 1, 2, 11, 12, and then one sits again. */
    static void onlyThoseWhoSit(Check check) {
        WaveRing x = check.made("seats 6; few 2 to 2; law up 2 rest 2 sees 1 shy 0 when 0;");
        int[] states = {1, 2, 11, 12};
        check.due("tryNow()", x.tryNow(), 1);
        for (int i = 0; i < states.length; i++) {
            check.due("state", x.seat(2, 0), states[i]);
            check.due("tryNow() in state " + states[i], x.tryNow(), 0);
            check.due("the state stays", x.seat(2, 0), states[i]);
            check.due("rose stays", x.seat(2, 1), 1);
            check.due("asked is one more", x.about(2), 2 + i);
            x.run(1);
        }
        check.due("one sits", x.seat(2, 0), 0);
        check.due("tryNow()", x.tryNow(), 1);
        check.due("rose", x.seat(2, 1), 2);
        check.due("state", x.seat(2, 0), 1);
    }

    static void itAnswersThoseWhoAreUpByItAlone(Check check) {
        WaveRing x = check.made("seats 8; few 0 to 3; law up 1 rest 1 sees 1 shy 0 when tenth=1 and rose=0;");
        x.run(1);
        check.due("all are up", x.about(3), 8);
        check.due("none by it", x.tryNow(), 0);
        x.run(2);
        check.due("all sit", x.about(3), 0);
        check.due("four by it", x.tryNow(), 4);
    }

    static void nothingIsDrawnAndNoWayIsGone(Check check) {
        WaveRing x = check.made("seats 6; few 0 to 5; law up 1 rest 0 sees 1 shy 9 when 1;");
        check.due("nobody is shy in a TRY", x.tryNow(), 6);
        check.due("w", x.about(7), 1);
        check.due("ways", x.way(0) + x.way(1) + x.way(2), 0);
    }

    static void whoTriedIsSeenInTheNextTenth(Check check) {
        WaveRing x = check.made("seats 6; few 0 to 0; law up 1 rest 9 sees 1 shy 0 when left>0 and asked=1 and rose=0;");
        x.run(5);
        x.tryNow();
        check.due("run(1)", x.run(1), 1);
        check.due("states", Check.states(x), "11 1 0 0 0 0");
    }
}
