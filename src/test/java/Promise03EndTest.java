/** Promise 3: end. */
public final class Promise03EndTest {
    public static void main(String[] args) throws ReflectiveOperationException {
        Check.runTests(Promise03EndTest.class);
    }

    static void ofAnEmptyTapeOnly0(Check check) {
        WaveRing x = new WaveRing();
        check.due("end(0)", x.end(0), 0);
        check.due("end(1)", x.end(1), -1);
        check.due("end(-1)", x.end(-1), -1);
    }

    static void notMoreThanItHas(Check check) {
        WaveRing x = new WaveRing();
        x.feed(1, 2, 3, 4, 5);
        check.due("end(21)", x.end(21), -1);
        check.due("end(greatest)", x.end(Check.GREATEST), -1);
        check.due("about(6)", x.about(6), 20);
        check.due("end(20)", x.end(20), 20);
        check.due("about(6)", x.about(6), 20);
        check.due("end(19)", x.end(19), 19);
        check.due("about(6)", x.about(6), 19);
        check.due("end(20): it has 19", x.end(20), -1);
        check.due("about(6)", x.about(6), 19);
    }

    static void notBelow0(Check check) {
        WaveRing x = new WaveRing();
        x.feed(1, 2, 3, 4, 5);
        check.due("end(-1)", x.end(-1), -1);
        check.due("end(least)", x.end(Check.LEAST), -1);
        check.due("about(6)", x.about(6), 20);
        check.due("end(1)", x.end(1), 1);
        check.due("end(0)", x.end(0), 0);
        check.due("about(6)", x.about(6), 0);
    }

    static void ofAFullTape(Check check) {
        WaveRing x = new WaveRing();
        for (int i = 0; i < 40; i++) {
            x.feed(0, 0, 0, 0, 0);
        }
        check.due("end(801)", x.end(801), -1);
        check.due("end(800)", x.end(800), 800);
        check.due("end(799)", x.end(799), 799);
        check.due("end(800): it has 799", x.end(800), -1);
    }

    static void itsFirstBytesStay(Check check) {
        WaveRing x = new WaveRing();
        Check.fed(x, "seats 8;seats 9;");
        check.due("end(8)", x.end(8), 8);
        check.due("ring(): the first line alone", x.ring(), 8);
    }

    static void whatIsRefusedDoesNothing(Check check) {
        WaveRing x = new WaveRing();
        Check.fed(x, "seats 8;dear 0 to 7;");
        x.end(21);
        x.end(-1);
        check.due("ring()", x.ring(), 8);
        check.due("the last line is there", x.seat(7, 2), 1);
    }
}
