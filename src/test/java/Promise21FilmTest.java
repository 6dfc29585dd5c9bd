/** Promise 21: film. */
public final class Promise21FilmTest {
    public static void main(String[] args) throws ReflectiveOperationException {
        Check.runTests(Promise21FilmTest.class);
    }

    static void itsNumberIsFrom0On(Check check) {
        WaveRing x = check.made("seats 8;");
        check.due("the first", x.film(5, 1L), 0);
        check.due("the second", x.film(5, 1L), 1);
        x.untell(0);
        x.later(3);
        check.due("the third", x.film(0, 0L), 2);
        check.due("about(4)", x.about(4), 3);
    }

    static void momentsAre0To39(Check check) {
        WaveRing x = check.made("seats 8;");
        int[] others = {-1, 40, 41, Check.LEAST, Check.GREATEST};
        for (int moment : others) {
            check.due("film(" + moment + ", 1)", x.film(moment, 1L), -1);
        }
        check.due("about(4)", x.about(4), 0);
        check.due("film(0, 1)", x.film(0, 1L), 0);
        check.due("film(39, 1)", x.film(39, 1L), 1);
        check.due("about(4)", x.about(4), 2);
    }

    static void noBitIsSetForWhatIsNoSeat(Check check) {
        int[] all = {6, 7, 24, 39, 40};
        for (int seats : all) {
            WaveRing x = check.made("seats " + seats + ";");
            check.due("bit " + seats, x.film(0, 1L << seats), -1);
            check.due("all and bit " + seats, x.film(0, (2L << seats) - 1), -1);
            check.due("bit 62", x.film(0, 1L << 62), -1);
            check.due("bit 63", x.film(0, Long.MIN_VALUE), -1);
            check.due("all bits", x.film(0, -1L), -1);
            check.due("about(4)", x.about(4), 0);
            check.due("no bit", x.film(0, 0L), 0);
            check.due("the first bit", x.film(0, 1L), 1);
            check.due("the last bit", x.film(0, 1L << seats - 1), 2);
            check.due("all seats", x.film(0, (1L << seats) - 1), 3);
        }
    }

    static void aGapIsASeat(Check check) {
        WaveRing x = check.made("seats 8; gap 3 to 3;");
        check.due("film of a gap", x.film(0, 8L), 0);
        check.due("about(4)", x.about(4), 1);
    }

    static void sixtyAtMost(Check check) {
        WaveRing x = check.made("seats 40;");
        for (int film = 0; film < 60; film++) {
            check.due("film " + film, x.film(film % 40, 1L << film % 40), film);
        }
        check.due("about(4)", x.about(4), 60);
        check.due("a 61st", x.film(0, 0L), -1);
        x.untell(59);
        check.due("a 61st, though one is untold", x.film(0, 0L), -1);
        x.later(1);
        check.due("a 61st later", x.film(0, 0L), -1);
        check.due("about(4)", x.about(4), 60);
    }

    static void whatIsRefusedDoesNothing(Check check) {
        WaveRing x = check.made("seats 6;");
        x.film(0, 1L);
        x.film(1, 2L);
        check.due("four fit", x.fits(0), 4);
        x.film(2, 64L);
        x.film(40, 0L);
        x.film(-1, 0L);
        check.due("four fit still", x.fits(0), 4);
        check.due("about(4)", x.about(4), 2);
    }

    static void ofSixtyTheLastCountsToo(Check check) {
        WaveRing x = check.made("seats 6;");
        for (int film = 0; film < 59; film++) {
            x.film(0, 1L);
        }
        check.due("all fit", x.fits(0), 324);
        check.due("the 60th", x.film(1, 2L), 59);
        check.due("four fit", x.fits(0), 4);
        x.film(1, 32L);
        check.due("a 61st does nothing", x.fit(0, 0), 0);
    }

    static void behindANewRingTheyAreOfItsSeats(Check check) {
        WaveRing x = check.made("seats 8;");
        check.due("bit 7 of 8", x.film(0, 128L), 0);
        Check.tell(x, "seats 6;");
        check.due("bit 7 of 6", x.film(0, 128L), -1);
        check.due("bit 5 of 6", x.film(0, 32L), 0);
        Check.tell(x, "seats 5;");
        check.due("behind a fault they go on", x.film(0, 32L), 1);
    }
}
