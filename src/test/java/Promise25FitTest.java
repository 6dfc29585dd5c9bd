/** Promise 25: fit. */
public final class Promise25FitTest {
    public static void main(String[] args) throws ReflectiveOperationException {
        Check.runTests(Promise25FitTest.class);
    }

    static void withoutFilmsTheIThIsI(Check check) {
        WaveRing x = check.made("seats 6;");
        for (int i = 0; i < 324; i++) {
            check.due("fit(" + i + ", 0)", x.fit(i, 0), i);
        }
        int[] others = {-1, 324, 325, Check.LEAST, Check.GREATEST};
        for (int i : others) {
            check.due("fit(" + i + ", 0)", x.fit(i, 0), -1);
        }
    }

    static void noneBehindTheLastThatFits(Check check) {
        WaveRing x = check.made("seats 6;");
        x.film(0, 1L);
        x.film(1, 2L);
        for (int i = 0; i < 4; i++) {
            check.due("fit(" + i + ", 0)", x.fit(i, 0), i);
        }
        check.due("fit(4, 0)", x.fit(4, 0), -1);
        check.due("fit(323, 0)", x.fit(323, 0), -1);
        check.due("fit(-1, 0)", x.fit(-1, 0), -1);
        x.film(2, 0L);
        check.due("none fits", x.fit(0, 0), -1);
    }

    static void noneBehindTheLastThatSeesBothSides(Check check) {
        WaveRing x = check.made("seats 6;");
        x.film(0, 1L);
        x.film(1, 34L);
        int first = PlainLaw.number(2, 1, 1, 1, 0);
        for (int i = 0; i < 4; i++) {
            check.due("fit(" + i + ", 0)", x.fit(i, 0), first + i);
        }
        check.due("fit(4, 0)", x.fit(4, 0), -1);
        check.due("fit(5, 0)", x.fit(5, 0), -1);
    }

    static void theLastLawIs323(Check check) {
        WaveRing x = check.made("seats 12;");
        int law = PlainLaw.number(2, 3, 3, 3, 3);
        long[] films = PlainLaw.shown(law, "............", 7L, 9);
        for (int moment = 0; moment < films.length; moment++) {
            x.film(moment, films[moment]);
        }
        int last = x.fits(0) - 1;
        check.due("some fit", last >= 0, true);
        check.due("the last", x.fit(last, 0), 323);
        check.due("none behind it", x.fit(last + 1, 0), -1);
    }

    static void inTheOrderOfTheirNumbers(Check check) {
        WaveRing x = check.made("seats 12;");
        x.film(10, 3L);
        x.film(11, 7L);
        // Seat 2 alone is new, and 0 and 1 stay: sees 1 need 1, or sees 2 need 2, with up 2 or 3.
        int[] due = new int[16];
        for (int i = 0; i < 8; i++) {
            due[i] = PlainLaw.number(0, 1, 1, 2 + i / 4, i % 4);
            due[8 + i] = PlainLaw.number(0, 2, 2, 2 + i / 4, i % 4);
        }
        for (int i = 0; i < 16; i++) {
            check.due("fit(" + i + ", 0)", x.fit(i, 0), due[i]);
        }
        check.due("fit(16, 0)", x.fit(16, 0), -1);
    }

    static void asKnownAtK(Check check) {
        WaveRing x = check.made("seats 6;");
        x.film(0, 1L);
        x.later(2);
        x.film(1, 32L);
        check.due("fit(0, 1)", x.fit(0, 1), 0);
        check.due("fit(323, 1)", x.fit(323, 1), 323);
        check.due("fit(0, 2)", x.fit(0, 2), 108);
        check.due("fit(4, 2)", x.fit(4, 2), -1);
        check.due("fit(323, least)", x.fit(323, Check.LEAST), 323);
        check.due("fit(0, greatest)", x.fit(0, Check.GREATEST), 108);
    }
}
