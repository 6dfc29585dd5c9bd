/** Promise 12: waves. */
public final class Promise12WavesTest {
    private static final String STILL = "law up 1 rest 0 sees 1 shy 0 when 0;";

    public static void main(String[] args) throws ReflectiveOperationException {
        Check.runTests(Promise12WavesTest.class);
    }

    private static int wavesOf(Check check, String text) {
        return check.tried(text + STILL).waves();
    }

    static void nobodyIsUp(Check check) {
        check.due("none", wavesOf(check, "seats 6;"), 0);
        check.due("none of 40", wavesOf(check, "seats 40;"), 0);
    }

    static void allSeatsUpAreOne(Check check) {
        check.due("six", wavesOf(check, "seats 6; few 0 to 5;"), 1);
        check.due("seven", wavesOf(check, "seats 7; few 0 to 6;"), 1);
        check.due("forty", wavesOf(check, "seats 40; few 0 to 39;"), 1);
    }

    static void allButOneAreOne(Check check) {
        check.due("not the first", wavesOf(check, "seats 6; few 1 to 5;"), 1);
        check.due("not the last", wavesOf(check, "seats 6; few 0 to 4;"), 1);
        check.due("a gap", wavesOf(check, "seats 6; few 0 to 5; gap 3 to 3;"), 1);
        check.due("a gap at 0", wavesOf(check, "seats 40; few 0 to 39; gap 0 to 0;"), 1);
        check.due("a gap at 39", wavesOf(check, "seats 40; few 0 to 39; gap 39 to 39;"), 1);
    }

    static void whatTouchesRoundIsOne(Check check) {
        check.due("the last and the first", wavesOf(check, "seats 6; few 0 to 0; few 5 to 5;"), 1);
        check.due("and one more", wavesOf(check, "seats 6; few 0 to 0; few 5 to 5; few 2 to 3;"), 2);
        check.due("of forty", wavesOf(check, "seats 40; few 0 to 9; few 30 to 39;"), 1);
    }

    static void oneSeatBetweenPartsThem(Check check) {
        check.due("side by side", wavesOf(check, "seats 8; few 1 to 2; few 3 to 4;"), 1);
        check.due("one between", wavesOf(check, "seats 8; few 1 to 2; few 4 to 5;"), 2);
        check.due("a gap between", wavesOf(check, "seats 8; few 1 to 5; gap 3 to 3;"), 2);
    }

    static void eachSecondSeatIsTheMost(Check check) {
        StringBuilder text = new StringBuilder("seats 40;");
        for (int seat = 0; seat < 40; seat += 2) {
            text.append("few ").append(seat).append(" to ").append(seat).append(";");
        }
        check.due("of forty", wavesOf(check, text.toString()), 20);
        check.due("of seven: 6 touches 0", wavesOf(check, "seats 7; few 0 to 0; few 2 to 2; few 4 to 4; few 6 to 6;"), 3);
    }

    static void allWhoAreUpInAnyTenthOfIt(Check check) {
        WaveRing x = check.tried("seats 12; few 0 to 0; few 6 to 6; law up 3 rest 1 sees 1 shy 0 when left>0;");
        for (int i = 0; i < 9; i++) {
            check.due("waves()", x.waves(), 2);
            x.run(1);
        }
        x = check.tried("seats 12; few 0 to 0; few 2 to 2; law up 2 rest 1 sees 1 shy 0 when left>0;");
        check.due("two", x.waves(), 2);
        x.run(1);
        check.due("one with those up for the 2nd tenth", x.waves(), 1);
    }

    static void eachRowOfSixSeats(Check check) {
        for (int bits = 0; bits < 64; bits++) {
            StringBuilder text = new StringBuilder("seats 6;");
            int begins = 0;
            for (int seat = 0; seat < 6; seat++) {
                boolean up = (bits >> seat & 1) == 1;
                boolean leftUp = (bits >> (seat + 5) % 6 & 1) == 1;
                begins += up && !leftUp ? 1 : 0;
                text.append(up ? "few " + seat + " to " + seat + ";" : "");
            }
            check.due("row " + bits, wavesOf(check, text.toString()), bits == 63 ? 1 : begins);
        }
    }
}
