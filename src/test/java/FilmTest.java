/** Films and plain laws: promises 21 to 27. */
public final class FilmTest {
    private static final Check CHECK = new Check();

    public static void main(String[] args) {
        films();
        times();
        twoTimes();
        fits();
        gapsAndDear();
        sure();
        same();
        sameByUpAndRest();
        CHECK.finish();
    }

    /** The number of a plain law. */
    private static int law(int side, int sees, int need, int up, int rest) {
        return (((side * 3 + sees - 1) * 3 + need - 1) * 3 + up - 1) * 4 + rest;
    }

    private static void films() {
        WaveRing x = CHECK.made("seats 40;");
        CHECK.due("untell of none", x.untell(0), false);
        CHECK.due("all of 40", x.film(39, (1L << 40) - 1), 0);
        CHECK.due("bit 40", x.film(0, 1L << 40), -1);
        CHECK.due("bit 63", x.film(0, Long.MIN_VALUE), -1);
        CHECK.due("moment 40", x.film(40, 0), -1);
        CHECK.due("moment -1", x.film(-1, 0), -1);
        CHECK.due("about(4)", x.about(4), 1);
        for (int i = 1; i < 60; i++) {
            CHECK.due("film " + i, x.film(i % 40, 0), i);
        }
        CHECK.due("a 61st", x.film(0, 0), -1);
        CHECK.due("about(4)", x.about(4), 60);
        CHECK.due("untell the last", x.untell(59), true);
        CHECK.due("untell it again", x.untell(59), false);
        CHECK.due("untell(60)", x.untell(60), false);
        CHECK.due("untell(-1)", x.untell(-1), false);
        CHECK.due("still 60", x.film(0, 0), -1);
        CHECK.due("about(4)", x.about(4), 60);
        x = CHECK.made("seats 6;");
        CHECK.due("bit 5", x.film(0, 32), 0);
        CHECK.due("bit 6", x.film(0, 64), -1);
        Check.tell(x, "seats 7;");
        CHECK.due("untell of a film of the ring before", x.untell(0), false);
        CHECK.due("bit 6 of seven", x.film(0, 64), 0);
    }

    private static void times() {
        WaveRing x = new WaveRing();
        CHECK.due("later(0)", x.later(0), 0);
        CHECK.due("later(-1)", x.later(-1), -1);
        CHECK.due("later(1001)", x.later(1001), -1);
        for (int i = 1; i < 100; i++) {
            CHECK.due("later(1000)", x.later(1000), 1000 * i);
        }
        CHECK.due("later(999)", x.later(999), 99999);
        CHECK.due("later(2)", x.later(2), -1);
        CHECK.due("about(5)", x.about(5), 99999);
        CHECK.due("later(1)", x.later(1), 100000);
        CHECK.due("later(1)", x.later(1), -1);
        CHECK.due("later(0)", x.later(0), 100000);
    }

    private static void twoTimes() {
        WaveRing x = CHECK.made("seats 6;");
        x.later(3);
        x.film(0, 1L);
        x.film(1, 2L);
        x.later(2);
        x.film(1, 32L);
        CHECK.due("known at 2: none", x.fits(2), 324);
        CHECK.due("known at -5: none", x.fits(-5), 324);
        CHECK.due("known at 3", x.fits(3), 4);
        CHECK.due("known at 3, left", x.fit(0, 3), law(0, 1, 1, 1, 0));
        CHECK.due("known at 4", x.fit(0, 4), law(0, 1, 1, 1, 0));
        CHECK.due("known at 5, right", x.fit(0, 5), law(1, 1, 1, 1, 0));
        CHECK.due("known for ever, right", x.fit(0, Integer.MAX_VALUE), law(1, 1, 1, 1, 0));
        x.later(1);
        x.untell(2);
        CHECK.due("known at 5 still, right", x.fit(0, 5), law(1, 1, 1, 1, 0));
        CHECK.due("known at 6, left again", x.fit(0, 6), law(0, 1, 1, 1, 0));
        x.untell(0);
        CHECK.due("a law from moment 1 on", x.fits(6), 324);
        CHECK.due("known at 5", x.fits(5), 4);
        x.film(5, 0L);
        x.untell(3);
        CHECK.due("told and untold at once", x.fits(6), 324);
        x.film(1, 2L);
        x.film(1, 4L);
        x.film(0, 2L);
        CHECK.due("of one time the last", x.fit(0, 6), law(0, 1, 1, 1, 0));
        CHECK.due("of one time the last alone", x.fits(6), 4);
    }

    private static void fits() {
        WaveRing x = CHECK.made("seats 12;");
        CHECK.due("fit(323)", x.fit(323, 0), 323);
        CHECK.due("fit(324)", x.fit(324, 0), -1);
        CHECK.due("fit(-1)", x.fit(-1, 0), -1);
        x.film(10, 0b000000000011L);
        CHECK.due("one film lets all", x.fits(0), 324);
        x.film(11, 0b000000000111L);
        // Seat 2 alone is new, and 0 and 1 stay: sees 1 need 1, or sees 2 need 2, with up 2 or 3.
        CHECK.due("two stay, one rises", x.fits(0), 2 * 2 * 4);
        CHECK.due("the first of them", x.fit(0, 0), law(0, 1, 1, 2, 0));
        CHECK.due("the ninth of them", x.fit(8, 0), law(0, 2, 2, 2, 0));
        CHECK.due("the last of them", x.fit(15, 0), law(0, 2, 2, 3, 3));
        x.film(12, 0b000000001100L);
        CHECK.due("they were up for two tenths", x.fits(0), 4);
        CHECK.due("left, one seen", x.fit(3, 0), law(0, 1, 1, 2, 3));
        x.film(9, 0L);
        CHECK.due("from nobody nobody rises", x.fits(0), 0);
        CHECK.due("fit of none", x.fit(0, 0), -1);
        x.untell(3);
        x.film(30, 0L);
        CHECK.due("it has not died", x.fits(0), 0);
        x = CHECK.made("seats 6;");
        x.film(0, 0b000111L);
        x.film(1, 0b001000L);
        CHECK.due("of six seats two are seen: never three on one side", x.fit(0, 0), law(0, 1, 1, 1, 0));
        CHECK.due("need 3 lets nobody rise", contains(x, law(0, 3, 3, 1, 0)), false);
        CHECK.due("sees 3 is as sees 2", contains(x, law(0, 3, 2, 1, 0)), contains(x, law(0, 2, 2, 1, 0)));
        x = CHECK.made("seats 9;");
        x.film(0, 0b000000101L);
        x.film(1, 0b000000010L);
        CHECK.due("both together", contains(x, law(2, 1, 2, 1, 1)), true);
        CHECK.due("the left alone", contains(x, law(0, 1, 1, 1, 1)), false);
        CHECK.due("the right alone", contains(x, law(1, 1, 1, 1, 1)), false);
    }

    private static boolean contains(WaveRing x, int law) {
        for (int i = 0; i < x.fits(0); i++) {
            if (x.fit(i, 0) == law) {
                return true;
            }
        }
        return false;
    }

    private static void gapsAndDear() {
        WaveRing x = CHECK.made("seats 8; dear 2 to 2; gap 5 to 5;");
        x.film(0, 0b00100000L);
        CHECK.due("somebody in a gap", x.fits(0), 0);
        x.later(1);
        x.film(0, 0b00000100L);
        CHECK.due("another film of that moment", x.fits(1), 324);
        x.film(1, 0b00001000L);
        CHECK.due("a dear one at first", x.fit(0, 1), law(0, 1, 1, 1, 0));
        x.film(4, 0b00100000L);
        CHECK.due("somebody in a gap later", x.fits(1), 0);
        x.untell(3);
        x.film(1, 0b00001010L);
        CHECK.due("both ways", x.fit(0, 1), law(2, 1, 1, 1, 0));
        x.film(2, 0b00010001L);
        x.film(3, 0b10000000L);
        CHECK.due("not into the gap", x.fits(1) > 0, true);
        x = CHECK.made("seats 8; dear 2 to 2; law up 1 rest 1 sees 1 shy 0 when 1;");
        x.film(0, 0b00000010L);
        x.film(1, 0b00000000L);
        CHECK.due("dear ones do not rise", contains(x, law(0, 1, 1, 1, 0)), true);
        CHECK.due("seat 3 would", contains(x, law(0, 2, 1, 1, 0)), false);
    }

    private static void sure() {
        WaveRing x = CHECK.made("seats 8; gap 7 to 7;");
        CHECK.due("no film", x.sure(0, 0, 0), -1);
        x.film(5, 0b0000001L);
        x.film(6, 0b0000010L);
        CHECK.due("up in the first", x.sure(0, 5, 0), 1);
        CHECK.due("not up in the first", x.sure(1, 5, 0), 0);
        CHECK.due("ahead of the first", x.sure(0, 4, 0), -1);
        CHECK.due("moment 40", x.sure(0, 40, 0), -1);
        CHECK.due("moment -1", x.sure(0, -1, 0), -1);
        CHECK.due("seat 8", x.sure(8, 6, 0), -1);
        CHECK.due("seat -1", x.sure(-1, 6, 0), -1);
        CHECK.due("not known yet", x.sure(0, 6, -1), -1);
        CHECK.due("it goes on", x.sure(4, 9, 0), 1);
        CHECK.due("and goes off", x.sure(3, 9, 0), 0);
        // Both together fits too, as the gap is on the left of seat 0; with rest 0 it goes back, and to and fro.
        CHECK.due("seat 0 by some", x.sure(0, 7, 0), 2);
        CHECK.due("seat 0 by some in moment 39", x.sure(0, 39, 0), 2);
        CHECK.due("seat 1 by none in moment 39", x.sure(1, 39, 0), 0);
        CHECK.due("a gap", x.sure(7, 12, 0), 0);
        x.film(7, 0b0000001L);
        CHECK.due("none fits", x.fits(0), 0);
        CHECK.due("sure of none", x.sure(0, 7, 0), -1);
        // Two waves with one seat between them: who is hit again in the second tenth does not rest.
        x = CHECK.made("seats 7;");
        x.film(0, 0b0000101L);
        x.film(1, 0b0001010L);
        x.film(2, 0b0010100L);
        CHECK.due("one law fits", x.fits(0), 1);
        CHECK.due("it is the first", x.fit(0, 0), 0);
        CHECK.due("sure by it alone", x.sure(5, 5, 0), 1);
        CHECK.due("sure by it round", x.sure(0, 5, 0), 1);
        CHECK.due("sure by it not", x.sure(6, 5, 0), 0);
    }

    private static void same() {
        WaveRing x = CHECK.made("seats 6;");
        CHECK.due("324", x.same(324, 0), -1);
        CHECK.due("-1", x.same(0, -1), -1);
        CHECK.due("least", x.same(Integer.MIN_VALUE, 0), -1);
        CHECK.due("itself", x.same(323, 323), 1);
        CHECK.due("two of six are seen", x.same(law(0, 2, 1, 1, 1), law(0, 3, 1, 1, 1)), 1);
        CHECK.due("left and right", x.same(law(0, 1, 1, 1, 1), law(1, 1, 1, 1, 1)), 0);
        CHECK.due("need 2 and 3 of one", x.same(law(0, 1, 2, 1, 1), law(0, 1, 3, 1, 3)), 1);
        CHECK.due("up 1 and 2", x.same(law(0, 1, 3, 1, 1), law(0, 1, 3, 2, 1)), 0);
        CHECK.due("three side by side", x.same(law(0, 2, 2, 1, 0), law(0, 2, 2, 1, 0) + 36), 1);
        x = CHECK.made("seats 8;");
        CHECK.due("three of eight are seen", x.same(law(0, 2, 1, 1, 1), law(0, 3, 1, 1, 1)), 0);
        CHECK.due("need 3 by a start of 3 alone", x.same(law(0, 3, 3, 1, 0), law(0, 2, 3, 1, 0)), 0);
        x = CHECK.made("seats 8; dear 0 to 7;");
        CHECK.due("dear ones alone", x.same(law(0, 1, 1, 2, 1), law(2, 3, 1, 2, 3)), 1);
        x = CHECK.made("seats 8; gap 0 to 7;");
        CHECK.due("gaps alone", x.same(0, 323), 1);
        x = CHECK.made("seats 8; gap 0 to 5; dear 6 to 6;");
        CHECK.due("a dear one starts: left and right", x.same(law(0, 1, 1, 1, 0), law(1, 1, 1, 1, 0)), 0);
        x = CHECK.made("seats 8; gap 4 to 7;");
        CHECK.due("by the start of 0, 1, 2 alone", x.same(law(0, 3, 3, 1, 0), law(0, 1, 3, 1, 0)), 0);
        x = CHECK.made("seats 8; gap 0 to 5; dear 6 to 6;");
        CHECK.due("to the left of it nobody", x.same(law(1, 1, 1, 1, 0), law(1, 1, 3, 1, 0)), 1);
    }

    /** On six seats a wave from n is back behind 7 - n tenths: who then still is up or rests ends it. */
    private static void sameByUpAndRest() {
        WaveRing x = CHECK.made("seats 6;");
        for (int up = 1; up <= 3; up++) {
            for (int a = 0; a <= 3; a++) {
                for (int b = 0; b <= 3; b++) {
                    boolean due = endsBy(up + a) == endsBy(up + b);
                    CHECK.due("up " + up + ", rest " + a + " and " + b, x.same(law(0, 1, 1, up, a), law(0, 1, 1, up, b)), due ? 1 : 0);
                }
            }
        }
    }

    /** From how many on, of 1 to 3, a wave ends by so many tenths up and at rest; 4: by none. */
    private static int endsBy(int tenths) {
        for (int n = 1; n <= 3; n++) {
            if (tenths > 6 - n) {
                return n;
            }
        }
        return 4;
    }
}
