/** Promise 2: feed. */
public final class Promise02FeedTest {
    private static final int BLANKS = 0x20202020;

    public static void main(String[] args) throws ReflectiveOperationException {
        Check.runTests(Promise02FeedTest.class);
    }

    private static int feedBlanks(WaveRing x) {
        return x.feed(BLANKS, BLANKS, BLANKS, BLANKS, BLANKS);
    }

    static void twentyBytesComeBehindThoseOnTheTape(Check check) {
        WaveRing x = new WaveRing();
        for (int i = 1; i <= 40; i++) {
            check.due("feed " + i, feedBlanks(x), 20 * i);
            check.due("about(6)", x.about(6), 20 * i);
        }
    }

    static void theHighestByteOfEachNumberIsTheFirst(Check check) {
        WaveRing x = new WaveRing();
        // "seats 6;dear 0 to 5;"
        x.feed(0x73656174, 0x7320363b, 0x64656172, 0x20302074, 0x6f20353b);
        check.due("ring()", x.ring(), 6);
        check.due("all are dear", Check.answers(x, 2), "1 1 1 1 1 1");
    }

    static void aByteOfTwentyCanBeAnyOf256(Check check) {
        for (int place = 0; place < 20; place++) {
            int[] five = {BLANKS, BLANKS, BLANKS, BLANKS, BLANKS};
            five[place / 4] |= 255 << 24 - place % 4 * 8;
            WaveRing x = new WaveRing();
            x.feed(five[0], five[1], five[2], five[3], five[4]);
            check.due("ring()", x.ring(), -1);
            check.due("fault(0)", x.fault(0), 1);
            check.due("fault(1)", x.fault(1), place);
        }
    }

    static void upTo800BytesComeBut801DoNot(Check check) {
        int[] before = {779, 780, 781, 799, 800};
        int[] due = {799, 800, -1, -1, -1};
        for (int i = 0; i < before.length; i++) {
            WaveRing x = new WaveRing();
            for (int j = 0; j < 40; j++) {
                feedBlanks(x);
            }
            x.end(before[i]);
            check.due("feed behind " + before[i], feedBlanks(x), due[i]);
            check.due("about(6)", x.about(6), due[i] < 0 ? before[i] : due[i]);
        }
    }

    static void nothingComesIfThereWouldBeMoreThan800(Check check) {
        WaveRing x = new WaveRing();
        Check.fed(x, "seats 9;" + " ".repeat(781 - 8));
        check.due("feed behind 781", x.feed(-1, -1, -1, -1, -1), -1);
        check.due("feed behind 781 again", x.feed(-1, -1, -1, -1, -1), -1);
        check.due("bytes", x.about(6), 781);
        check.due("end(782): not one of them came", x.end(782), -1);
        check.due("the text is as it was", x.ring(), 9);
    }

    static void aTextOf800BytesIsReadToItsEnd(Check check) {
        String text = " ".repeat(791) + "seats 33;";
        check.due("length", text.length(), 800);
        check.stands(text, 33);
        check.faulty(" ".repeat(799) + "$", 1, 799);
    }

    static void behindAnEndBytesComeInPlaceOfThoseCutOff(Check check) {
        WaveRing x = new WaveRing();
        Check.fed(x, "seats 7 and more");
        check.due("end(7)", x.end(7), 7);
        check.due("feed", x.feed(0x3b202020, BLANKS, BLANKS, BLANKS, BLANKS), 27);
        check.due("ring()", x.ring(), 7);
    }

    static void behindARingTheTapeIsEmpty(Check check) {
        WaveRing x = new WaveRing();
        feedBlanks(x);
        feedBlanks(x);
        x.ring();
        check.due("feed", feedBlanks(x), 20);
        Check.tell(x, "$");
        check.due("feed behind a fault", feedBlanks(x), 20);
    }
}
