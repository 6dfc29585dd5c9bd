import java.util.Arrays;

/** Promise 27: same. */
public final class Promise27SameTest {
    public static void main(String[] args) throws ReflectiveOperationException {
        Check.runTests(Promise27SameTest.class);
    }

    static void lawsAre0To323(Check check) {
        WaveRing x = check.made("seats 6;");
        int[] others = {-1, 324, 325, Check.LEAST, Check.GREATEST};
        for (int law : others) {
            check.due("same(" + law + ", 0)", x.same(law, 0), -1);
            check.due("same(0, " + law + ")", x.same(0, law), -1);
            check.due("same(" + law + ", " + law + ")", x.same(law, law), -1);
        }
        check.due("same(0, 0)", x.same(0, 0), 1);
        check.due("same(323, 323)", x.same(323, 323), 1);
        check.due("same(0, 323)", x.same(0, 323), 0);
        check.due("same(323, 0)", x.same(323, 0), 0);
    }

    static void eachIsTheSameAsItself(Check check) {
        WaveRing x = check.made("seats 9; gap 1 to 1; dear 4 to 4;");
        for (int law = 0; law < 324; law++) {
            check.due("same(" + law + ", " + law + ")", x.same(law, law), 1);
        }
    }

    static void onSixSeatsTwoAreSeenAtTheMost(Check check) {
        int two = PlainLaw.number(0, 2, 1, 1, 1);
        int three = PlainLaw.number(0, 3, 1, 1, 1);
        check.due("six", check.made("seats 6;").same(two, three), 1);
        check.due("seven", check.made("seats 7;").same(two, three), 0);
    }

    static void eachOfItsPartsCounts(Check check) {
        WaveRing x = check.made("seats 12;");
        int law = PlainLaw.number(0, 2, 2, 1, 0);
        check.due("side", x.same(law, PlainLaw.number(1, 2, 2, 1, 0)), 0);
        check.due("side", x.same(law, PlainLaw.number(2, 2, 2, 1, 0)), 0);
        check.due("sees", x.same(law, PlainLaw.number(0, 3, 2, 1, 0)), 0);
        check.due("need", x.same(law, PlainLaw.number(0, 2, 1, 1, 0)), 0);
        check.due("up", x.same(law, PlainLaw.number(0, 2, 2, 2, 0)), 0);
        check.due("rest, which is never felt", x.same(PlainLaw.number(0, 1, 1, 1, 0), PlainLaw.number(0, 1, 1, 1, 3)), 1);
    }

    static void whoNeedsMoreThanOneSeesNeverRises(Check check) {
        WaveRing x = check.made("seats 9;");
        check.due("2 and 3 of 1", x.same(PlainLaw.number(0, 1, 2, 1, 1), PlainLaw.number(0, 1, 3, 1, 3)), 1);
        check.due("3 of 2 left and right", x.same(PlainLaw.number(0, 2, 3, 2, 0), PlainLaw.number(1, 2, 3, 2, 1)), 1);
        check.due("but up counts", x.same(PlainLaw.number(0, 1, 3, 1, 1), PlainLaw.number(0, 1, 3, 2, 1)), 0);
    }

    /** On six seats a wave from n is back behind 7 - n tenths: who then still is up or rests ends it. */
    static void startsOf1And2And3Count(Check check) {
        WaveRing x = check.made("seats 6;");
        for (int up = 1; up <= 3; up++) {
            for (int a = 0; a <= 3; a++) {
                for (int b = 0; b <= 3; b++) {
                    int due = endsBy(up + a) == endsBy(up + b) ? 1 : 0;
                    check.due("up " + up + ", rest " + a + " and " + b,
                        x.same(PlainLaw.number(0, 1, 1, up, a), PlainLaw.number(0, 1, 1, up, b)), due);
                }
            }
        }
        check.due("told apart by starts of 3 alone", endsBy(3) * 10 + endsBy(4), 43);
        check.due("by those of 2 as well", endsBy(4) * 10 + endsBy(5), 32);
        check.due("by those of 1 alone", endsBy(5) * 10 + endsBy(6), 21);
    }

    /** From how many on, of 1 to 3, a wave ends by so many tenths up and at rest; 4: by none. */
    private static int endsBy(int tenths) {
        for (int n = 1; n <= 3; n++) {
            if (tenths > 6 - n) {
                return n;
            }
        }
        return 4;
    }

    /** Three side by side are needed to tell these apart, and no fewer. */
    static void startsOf3Count(Check check) {
        WaveRing x = check.made("seats 9;");
        check.due("three of three on the left", x.same(PlainLaw.number(0, 3, 3, 1, 0), PlainLaw.number(0, 2, 3, 1, 0)), 0);
        // On the seats 0, 1, 2, 3 alone, three are seen by 3 alone, and by it from the start of 0, 1, 2.
        x = check.made("seats 8; gap 4 to 7;");
        check.due("by one start alone", x.same(PlainLaw.number(0, 3, 3, 1, 0), PlainLaw.number(0, 1, 3, 1, 0)), 0);
        x = check.made("seats 8; gap 3 to 7;");
        check.due("on three seats never", x.same(PlainLaw.number(0, 3, 3, 1, 0), PlainLaw.number(0, 1, 3, 1, 0)), 1);
    }

    static void startsThatAreNotSideBySideDoNotCount(Check check) {
        // Need 3 of two on each side: by starts of 3, the seats on both ends see two on one side, and nobody three.
        WaveRing x = check.made("seats 12;");
        int law = PlainLaw.number(2, 2, 3, 1, 0);
        int never = PlainLaw.number(0, 1, 3, 1, 0);
        check.due("by starts of 1, 2, 3", x.same(law, never), 1);
        String row = "............";
        boolean alike = Arrays.equals(PlainLaw.shown(law, row, 27L, 60), PlainLaw.shown(never, row, 27L, 60));
        check.due("though 0, 1, 3, 4 would tell them apart", alike, false);
    }

    static void eachStartCountsRound(Check check) {
        // On the seats 11 and 0 alone a start on 11 is the only one that goes to the right.
        WaveRing x = check.made("seats 12; gap 1 to 10;");
        check.due("across the end", x.same(PlainLaw.number(0, 1, 1, 1, 0), PlainLaw.number(1, 1, 1, 1, 0)), 0);
        x = check.made("seats 12; gap 1 to 10; dear 0 to 0;");
        check.due("by the start on 0 alone", x.same(PlainLaw.number(1, 1, 1, 1, 0), PlainLaw.number(0, 1, 1, 1, 0)), 0);
    }

    static void gapsAndDearOnes(Check check) {
        WaveRing x = check.made("seats 8; gap 0 to 7;");
        check.due("gaps alone", x.same(0, 323), 1);
        x = check.made("seats 8; dear 0 to 7;");
        check.due("dear ones alone", x.same(PlainLaw.number(0, 1, 1, 2, 1), PlainLaw.number(2, 3, 1, 2, 3)), 1);
        check.due("dear ones start, and up counts", x.same(PlainLaw.number(0, 1, 1, 2, 1), PlainLaw.number(0, 1, 1, 1, 1)), 0);
        x = check.made("seats 8; gap 0 to 5; dear 6 to 6;");
        check.due("a dear one starts", x.same(PlainLaw.number(0, 1, 1, 1, 0), PlainLaw.number(1, 1, 1, 1, 0)), 0);
        check.due("to the left of it nobody", x.same(PlainLaw.number(1, 1, 1, 1, 0), PlainLaw.number(1, 1, 3, 1, 0)), 1);
    }

    /** The latest first differences that a long search found; in the tenths up to 60 none came later. */
    static void differencesOfALateTenthCount(Check check) {
        String twelve = ".............................d.........";
        String thirteen = "...................g.............d......";
        check.due("the first in tenth 12", firstDifference(twelve, 305, 307), 12);
        check.due("same(305, 307)", check.made(PlainLaw.text(twelve)).same(305, 307), 0);
        check.due("the first in tenth 13", firstDifference(thirteen, 310, 311), 13);
        check.due("same(310, 311)", check.made(PlainLaw.text(thirteen)).same(310, 311), 0);
    }

    /** The first tenth in which from some start others are up by one law than by another. */
    private static int firstDifference(String row, int a, int b) {
        for (int tenths = 1; tenths <= 60; tenths++) {
            if (alike(row, a, b, tenths) == 0) {
                return tenths;
            }
        }
        return -1;
    }

    static void pairsWorkedOutSeatBySeat(Check check) {
        String[] rows = {"......", "......d", "...g.....", ".d....g....", "...................."};
        for (String row : rows) {
            WaveRing x = check.made(PlainLaw.text(row));
            for (int i = 0; i < 400; i++) {
                int a = i * 37 % 324;
                int b = i % 3 == 0 ? a / 4 * 4 + i % 4 : i % 3 == 1 ? (a + 36) % 324 : i * 101 % 324;
                check.due("same(" + a + ", " + b + ") of " + row, x.same(a, b), alike(row, a, b, 60));
            }
        }
    }

    private static int alike(String row, int a, int b, int tenths) {
        for (int n = 1; n <= 3; n++) {
            for (int seat = 0; seat < row.length(); seat++) {
                long start = 0;
                for (int i = 0; i < n; i++) {
                    start |= 1L << (seat + i) % row.length();
                }
                if (!Arrays.equals(PlainLaw.shown(a, row, start, tenths + 1), PlainLaw.shown(b, row, start, tenths + 1))) {
                    return 0;
                }
            }
        }
        return 1;
    }

    static void theRingsOwnLawAndItsFilmsAreFree(Check check) {
        WaveRing x = check.tried("seats 6; few 0 to 1; law up 9 rest 20 sees 9 shy 9 when 1;");
        x.run(3);
        x.film(0, 1L);
        x.film(1, 0L);
        check.due("same(0, 2)", x.same(0, 2), 1);
        check.due("same(0, 3)", x.same(0, 3), 0);
    }
}
