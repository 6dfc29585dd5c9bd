/** Promise 4: ring, what it does with the object. */
public final class Promise04RingTest {
    private static final String FULL = "seats 8; few 0 to 1; dear 4 to 4; gap 6 to 6; slack 1 to 3 by 2; "
        + "law up 3 rest 2 sees 1 shy 4 when left>0 or right>slack;";

    public static void main(String[] args) throws ReflectiveOperationException {
        Check.runTests(Promise04RingTest.class);
    }

    /** A ring in the midst of all that can be. */
    private static WaveRing used(Check check) {
        WaveRing x = check.made(FULL);
        x.seed(4711);
        x.tryNow();
        x.run(3);
        x.image(0);
        x.image(1);
        x.image(2);
        x.run(2);
        x.film(0, 3L);
        x.film(1, 4L);
        x.later(7);
        x.untell(1);
        return x;
    }

    static void anEmptyTapeIsAnEmptyRing(Check check) {
        WaveRing x = new WaveRing();
        check.due("ring() of an empty tape", x.ring(), 24);
        x = used(check);
        check.due("ring() behind another ring", x.ring(), 24);
        x.seed(1);
        check.due("it is as a new object, but for the time", Check.everything(x),
            Check.everything(new WaveRing()).replace("about 24 0 0 0 0 0 0 1 2", "about 24 0 0 0 0 7 0 1 2"));
        check.due("its law: sees 2", x.jumps(0, 1, 12), 1);
        check.due("blanks alone", Check.tell(x, " \n\n "), 24);
    }

    static void itAnswersHowManySeats(Check check) {
        WaveRing x = new WaveRing();
        int[] seats = {6, 7, 39, 40};
        for (int n : seats) {
            check.due("seats " + n, Check.tell(x, "seats " + n + ";"), n);
            check.due("about(0)", x.about(0), n);
            check.due("the last seat", x.seat(n - 1, 0), 0);
            check.due("none behind it", x.seat(n, 0), -1);
        }
        check.due("without a seats line", Check.tell(x, "slack 1 to 1 by 1;"), 24);
        check.due("gaps are seats", Check.tell(x, "seats 6; gap 0 to 5;"), 6);
    }

    static void theTapeIsEmptyThen(Check check) {
        WaveRing x = new WaveRing();
        Check.tell(x, "seats 7;");
        check.due("about(6)", x.about(6), 0);
        check.due("ring() again is of an empty tape", x.ring(), 24);
        Check.tell(x, "seats 7");
        check.due("about(6) behind a fault", x.about(6), 0);
        check.due("ring() behind a fault is of an empty tape", x.ring(), 24);
    }

    static void aNewRingIsFresh(Check check) {
        WaveRing x = used(check);
        x.tryNow();
        x.run(1);
        check.due("somebody is up", x.about(3) > 0, true);
        check.due("the same text", Check.tell(x, FULL), 8);
        check.due("states", Check.states(x), "0 0 0 0 0 0 40 0");
        check.due("rose", Check.answers(x, 1), "0 0 0 0 0 0 0 0");
        check.due("tenths", x.about(1), 0);
        check.due("asked", x.about(2), 0);
        check.due("ups", x.about(3), 0);
        for (int way = 0; way < 3; way++) {
            check.due("way(" + way + ")", x.way(way), 0);
        }
        check.due("wide()", x.wide(), 0);
        check.due("dies()", x.dies(), 0);
    }

    static void filmsAreNoneThen(Check check) {
        WaveRing x = used(check);
        Check.tell(x, FULL);
        check.due("about(4)", x.about(4), 0);
        check.due("untell(0)", x.untell(0), false);
        check.due("all plain laws fit", x.fits(7), 324);
        check.due("as known before, too", x.fits(0), 324);
        check.due("the first film again", x.film(0, 1L), 0);
    }

    static void boxesAreEmptyThen(Check check) {
        WaveRing x = used(check);
        Check.tell(x, FULL);
        for (int box = 0; box < 3; box++) {
            check.due("back(" + box + ")", x.back(box), -1);
        }
    }

    static void wAndTheTimeStay(Check check) {
        WaveRing x = used(check);
        int w = x.about(7);
        check.due("w has been drawn", w != 4711, true);
        Check.tell(x, FULL);
        check.due("w", x.about(7), w);
        check.due("the time goes on", x.about(5), 7);
    }

    static void withAFaultAllStays(Check check) {
        WaveRing x = used(check);
        String before = Check.everything(x);
        int fits = x.fits(0);
        int wide = x.wide();
        check.due("a text with a fault at its end", Check.tell(x, "seats 9; few 2 to 3; gap 0 to 1; dear 7 to 8; "
            + "slack 0 to 99 by 7; law up 1 rest 1 sees 3 shy 9 when 1; gap 1 to 9;"), -1);
        check.due("all", Check.everything(x), before);
        check.due("films", x.fits(0), fits);
        check.due("who is up", x.wide(), wide);
        for (int box = 0; box < 3; box++) {
            check.due("back(" + box + ")", x.back(box), 3);
        }
        WaveRing y = used(check);
        y.back(0);
        check.due("it goes on by the law that it had", x.run(20), y.run(20));
        check.due("in all", Check.crowd(x), Check.crowd(y));
    }

    /** Three texts behind one another, as one that was told long ago might show through. */
    static void nothingOfOldRingsShows(Check check) {
        WaveRing x = new WaveRing();
        String old = "slack 0 to 9 by 5; few 0 to 5; dear 6 to 7; gap 8 to 9; law up 9 rest 9 sees 9 shy 9 when not slack;";
        Check.tell(x, old);
        Check.tell(x, old);
        Check.tell(x, "law up 1 rest 0 sees 1 shy 0 when slack=0;");
        check.due("all rise", x.run(1), 24);
        check.due("nobody is few", x.seat(0, 3), 0);
        Check.tell(x, old);
        Check.tell(x, old + "$");
        check.due("nothing is told", Check.tell(x, ""), 24);
        check.due("units", x.about(8), 2);
        check.due("nobody is dear", x.seat(6, 2), 0);
        check.due("no gap", x.seat(8, 2), 0);
        check.due("sees 2", x.jumps(0, 1, 12), 1);
        Check.tell(x, old);
        Check.tell(x, old);
        Check.tell(x, "few 0 to 0;");
        x.tryNow();
        check.due("two rise", x.run(1), 2);
        check.due("nobody is shy", x.about(7), 1);
    }
}
