/** Promise 11: wide. */
public final class Promise11WideTest {
    public static void main(String[] args) throws ReflectiveOperationException {
        Check.runTests(Promise11WideTest.class);
    }

    /** A ring on which those of a row of signs are up that are 1. */
    private static WaveRing up(Check check, String row, String more) {
        StringBuilder text = new StringBuilder("seats " + row.length() + ";" + more);
        for (int seat = 0; seat < row.length(); seat++) {
            if (row.charAt(seat) == '1') {
                text.append("few ").append(seat).append(" to ").append(seat).append(";");
            }
        }
        WaveRing x = check.made(text + "law up 1 rest 0 sees 1 shy 0 when 0;");
        x.tryNow();
        return x;
    }

    static void nobodyIsUp(Check check) {
        check.due("six", up(check, "000000", "").wide(), 0);
        check.due("forty", up(check, "0".repeat(40), "").wide(), 0);
    }

    static void allAreUp(Check check) {
        check.due("six", up(check, "111111", "").wide(), 6);
        check.due("seven", up(check, "1111111", "").wide(), 7);
        WaveRing x = check.tried("seats 40; few 0 to 39;");
        check.due("forty", x.wide(), 40);
    }

    static void allButOneAreUp(Check check) {
        check.due("not the first", up(check, "011111", "").wide(), 5);
        check.due("not the last", up(check, "111110", "").wide(), 5);
        check.due("one in the midst", up(check, "110111", "").wide(), 5);
        check.due("of forty", check.tried("seats 40; few 0 to 18; few 20 to 39;").wide(), 39);
    }

    static void sideBySideRound(Check check) {
        check.due("the last and the first", up(check, "100001", "").wide(), 2);
        check.due("two and one", up(check, "110001", "").wide(), 3);
        check.due("one round and two", up(check, "1011001", "").wide(), 2);
        check.due("of forty", check.tried("seats 40; few 0 to 4; few 34 to 39; few 10 to 19;").wide(), 11);
    }

    static void theMostOfSome(Check check) {
        check.due("one", up(check, "010000", "").wide(), 1);
        check.due("one and one", up(check, "010100", "").wide(), 1);
        check.due("one, three, two", up(check, "0100111011", "").wide(), 3);
        check.due("three, two, one", up(check, "0111011010", "").wide(), 3);
    }

    static void aGapPartsThem(Check check) {
        check.due("a gap", up(check, "111111", "gap 2 to 2;").wide(), 5);
        check.due("two", up(check, "111111", "gap 2 to 2; gap 4 to 4;").wide(), 3);
        check.due("gaps alone", up(check, "111111", "gap 0 to 5;").wide(), 0);
    }

    static void allWhoAreUpInAnyTenthOfIt(Check check) {
        WaveRing x = check.tried("seats 8; few 0 to 0; law up 3 rest 1 sees 1 shy 0 when left>0;");
        int[] due = {1, 2, 3, 3, 3};
        for (int wide : due) {
            check.due("wide()", x.wide(), wide);
            x.run(1);
        }
    }

    /** All 64 rows of six seats, counted seat by seat. */
    static void eachRowOfSixSeats(Check check) {
        for (int bits = 0; bits < 64; bits++) {
            StringBuilder row = new StringBuilder();
            for (int seat = 0; seat < 6; seat++) {
                row.append(bits >> seat & 1);
            }
            int due = 0;
            String twice = row.toString() + row;
            for (int wide = 1; wide <= 6; wide++) {
                due = twice.contains("1".repeat(wide)) ? wide : due;
            }
            check.due("wide() of " + row, up(check, row.toString(), "").wide(), due);
        }
    }
}
