/** The tape and the ring's text: promises 2 to 5, and the first of the document's terms. */
public final class TextTest {
    private static final Check CHECK = new Check();
    private static final String LAW = "law up 1 rest 0 sees 1 shy 0 when ";

    public static void main(String[] args) {
        tapeTakesTwentyBytesAtOnce();
        tapeIsCut();
        ringTakesTheTape();
        aFaultLetsAllStay();
        aNewRingIsFresh();
        nothingOfOldRings();
        tokens();
        linesAndNumbers();
        placesOfFaults();
        unitsAndNesting();
        CHECK.finish();
    }

    private static void tapeTakesTwentyBytesAtOnce() {
        WaveRing x = new WaveRing();
        for (int i = 1; i <= 40; i++) {
            CHECK.due("feed " + i, x.feed(0x20202020, 0x20202020, 0x0a0a0a0a, 0x20202020, 0x20202020), 20 * i);
        }
        CHECK.due("feed behind 800", x.feed(0, 0, 0, 0, 0), -1);
        CHECK.due("about(6)", x.about(6), 800);
        CHECK.due("end(781)", x.end(781), 781);
        CHECK.due("feed up to 801", x.feed(0, 0, 0, 0, 0), -1);
        CHECK.due("about(6)", x.about(6), 781);
        CHECK.due("end(780)", x.end(780), 780);
        CHECK.due("feed up to 800", x.feed(0x73656174, 0x73203700, 0x3b202020, 0x20202020, 0x20202020), 800);
        CHECK.due("ring with a byte 0 at 787", x.ring(), -1);
        CHECK.due("fault(0)", x.fault(0), 1);
        CHECK.due("fault(1)", x.fault(1), 787);
        CHECK.due("feed, the highest byte first", x.feed(0x73656174, 0x73203738, 0x78787878, 0, 0), 20);
        CHECK.due("end(7)", x.end(7), 7);
        CHECK.due("feed ; behind it", x.feed(0x3b202020, 0x20202020, 0x20202020, 0x20202020, 0x20202020), 27);
        CHECK.due("ring: seats 7;", x.ring(), 7);
    }

    private static void tapeIsCut() {
        WaveRing x = new WaveRing();
        CHECK.due("end(0) of none", x.end(0), 0);
        CHECK.due("end(1) of none", x.end(1), -1);
        x.feed(1, 2, 3, 4, 5);
        CHECK.due("end(21)", x.end(21), -1);
        CHECK.due("end(-1)", x.end(-1), -1);
        CHECK.due("end(least)", x.end(Integer.MIN_VALUE), -1);
        CHECK.due("about(6)", x.about(6), 20);
        CHECK.due("end(20)", x.end(20), 20);
        CHECK.due("end(3)", x.end(3), 3);
        CHECK.due("end(4)", x.end(4), -1);
        CHECK.due("about(6)", x.about(6), 3);
    }

    private static void ringTakesTheTape() {
        WaveRing x = new WaveRing();
        CHECK.due("ring of an empty tape", x.ring(), 24);
        CHECK.due("seats 40;", Check.tell(x, "seats 40;"), 40);
        CHECK.due("about(0)", x.about(0), 40);
        CHECK.due("about(6): the tape is empty", x.about(6), 0);
        CHECK.due("seats 6;", Check.tell(x, "seats 6;"), 6);
        CHECK.due("blanks alone", Check.tell(x, " \n \n"), 24);
        CHECK.due("slack and law may be ahead of seats",
            Check.tell(x, "slack 1 to 2 by 3; law up 1 rest 0 sees 1 shy 0 when 1; seats 12; gap 11 to 11;"), 12);
        CHECK.due("about(8)", x.about(8), 1);
        CHECK.due("without a law", Check.tell(x, "seats 9;"), 9);
        CHECK.due("about(8)", x.about(8), 2);
    }

    private static void aFaultLetsAllStay() {
        WaveRing x = CHECK.made("seats 8; few 0 to 1; law up 3 rest 2 sees 1 shy 0 when left>0 or 0;");
        x.tryNow();
        x.run(2);
        x.image(1);
        x.film(0, 3L);
        x.later(7);
        Check.fed(x, "seats 9; few 0 to 1; law up 1 rest 1 sees 3 shy 4 when 1; gap 1 to 9;");
        CHECK.due("ring with a fault", x.ring(), -1);
        CHECK.due("fault(0)", x.fault(0), 4);
        CHECK.due("fault(1)", x.fault(1), 67);
        CHECK.due("the tape is empty", x.about(6), 0);
        CHECK.due("seats", x.about(0), 8);
        CHECK.due("tenths", x.about(1), 2);
        CHECK.due("asked", x.about(2), 1);
        CHECK.due("films", x.about(4), 1);
        CHECK.due("units", x.about(8), 3);
        CHECK.due("seat 0", x.seat(0, 0), 3);
        CHECK.due("run(1) by the old law", x.run(1), 1);
        CHECK.due("the box", x.back(1), 2);
        CHECK.due("ring", x.ring(), 24);
        CHECK.due("fault(0)", x.fault(0), 0);
        CHECK.due("fault(1)", x.fault(1), -1);
        CHECK.due("fault(2)", x.fault(2), -1);
        CHECK.due("fault(-1)", x.fault(-1), -1);
    }

    private static void aNewRingIsFresh() {
        String text = "seats 8; few 0 to 0; law up 1 rest 1 sees 1 shy 5 when left>0 or right>0;";
        WaveRing x = CHECK.made(text);
        x.seed(99);
        x.tryNow();
        x.run(3);
        x.image(0);
        x.image(2);
        x.film(0, 1L);
        x.later(5);
        int drawn = x.about(7);
        CHECK.due("w has been drawn", drawn != 99, true);
        CHECK.due("the same ring", Check.tell(x, text), 8);
        CHECK.due("tenths", x.about(1), 0);
        CHECK.due("asked", x.about(2), 0);
        CHECK.due("up", x.about(3), 0);
        CHECK.due("films", x.about(4), 0);
        CHECK.due("the time goes on", x.about(5), 5);
        CHECK.due("w stays", x.about(7), drawn);
        for (int seat = 0; seat < 8; seat++) {
            CHECK.due("seat sits " + seat, x.seat(seat, 0), 0);
            CHECK.due("rose " + seat, x.seat(seat, 1), 0);
        }
        for (int i = 0; i < 3; i++) {
            CHECK.due("way", x.way(i), 0);
            CHECK.due("box", x.back(i), -1);
        }
        CHECK.due("the first film again", x.film(3, 2L), 0);
    }

    /** Three times, as a ring that was told long ago might show through. */
    private static void nothingOfOldRings() {
        WaveRing x = new WaveRing();
        String old = "slack 0 to 9 by 5; few 0 to 5; dear 6 to 7; gap 8 to 9; law up 9 rest 9 sees 9 shy 9 when not slack;";
        Check.tell(x, old);
        Check.tell(x, old);
        Check.tell(x, "law up 1 rest 0 sees 1 shy 0 when 1-slack;");
        CHECK.due("all rise", x.run(1), 24);
        CHECK.due("no few", x.seat(0, 3), 0);
        Check.tell(x, old);
        Check.tell(x, old + "$");
        CHECK.due("nothing is told", Check.tell(x, ""), 24);
        CHECK.due("units", x.about(8), 2);
        CHECK.due("nobody is dear", x.seat(6, 2), 0);
        CHECK.due("no gap", x.seat(8, 2), 0);
        CHECK.due("sees 2, up 2, rest 4", x.jumps(0, 1, 12), 1);
    }

    private static void tokens() {
        CHECK.faulty("seats6;dear0 to5;gap 1\nto\n1 ;", 0, -1);
        CHECK.faulty("law up1rest 0 sees 1 shy 0 when 1;", 1, 6);
        CHECK.faulty("seats 12a;", 1, 6);
        CHECK.faulty("seats 12A;", 1, 8);
        CHECK.faulty("seats 00012;", 1, 6);
        CHECK.faulty("seats 0012;", 0, -1);
        CHECK.faulty("dearones 1 to 2;", 2, 0);
        CHECK.faulty(" dearoness 1 to 2;", 1, 1);
        CHECK.faulty("Seats 12;", 1, 0);
        CHECK.faulty("zz", 2, 0);
        CHECK.faulty("aa", 2, 0);
        CHECK.faulty("`", 1, 0);
        CHECK.faulty("{", 1, 0);
        CHECK.faulty("seats 9z", 1, 6);
        CHECK.faulty("teats 9;", 2, 0);
        CHECK.faulty("seatz 9;", 2, 0);
        CHECK.faulty("seat 9;", 2, 0);
        CHECK.faulty("seatss 9;", 2, 0);
        CHECK.faulty("seats\t12;", 1, 5);
        CHECK.faulty("seats 12\r;", 1, 8);
        CHECK.faulty("seats 12;\u0000", 1, 9);
        CHECK.faulty("seats 12;\u00e9", 1, 9);
        CHECK.faulty(LAW + "left/2;", 1, 38);
        CHECK.faulty(LAW + "left,2;", 1, 38);
        CHECK.faulty(LAW + "left.2;", 1, 38);
        CHECK.faulty(LAW + "left:2;", 1, 38);
        CHECK.faulty(LAW + "left?2;", 1, 38);
        CHECK.faulty(LAW + "left'2;", 1, 38);
        CHECK.faulty(LAW + "left<2or right>3and(slack=1)*2-asked+rose*ups-tenth;", 1, 39);
        CHECK.faulty(LAW + "left<2 or right>3 and(slack=1)*2-asked+rose*ups-tenth;", 0, -1);
        CHECK.faulty(LAW + "12345;", 1, 34);
        CHECK.faulty(LAW + "9999;", 0, -1);
    }

    private static void linesAndNumbers() {
        CHECK.faulty("seats 5;", 4, 6);
        CHECK.faulty("seats 41;", 4, 6);
        CHECK.faulty("seats 40; dear 39 to 39; gap 0 to 39; few 0 to 0;", 0, -1);
        CHECK.faulty("seats 40; dear 40 to 39;", 4, 15);
        CHECK.faulty("seats 40; dear 39 to 40;", 4, 21);
        CHECK.faulty("seats 40; few 39 to 38;", 4, 20);
        CHECK.faulty("gap 23 to 23;", 0, -1);
        CHECK.faulty("gap 24 to 24;", 4, 4);
        CHECK.faulty("slack 0 to 999 by 9; slack 999 to 999 by 0;", 0, -1);
        CHECK.faulty("slack 1000 to 999 by 9;", 4, 6);
        CHECK.faulty("slack 5 to 1000 by 9;", 4, 11);
        CHECK.faulty("slack 5 to 4 by 9;", 4, 11);
        CHECK.faulty("slack 5 to 5 by 10;", 4, 16);
        CHECK.faulty("law up 9 rest 20 sees 9 shy 9 when 1;", 0, -1);
        CHECK.faulty("law up 0 rest 20 sees 9 shy 9 when 1;", 4, 7);
        CHECK.faulty("law up 10 rest 20 sees 9 shy 9 when 1;", 4, 7);
        CHECK.faulty("law up 9 rest 21 sees 9 shy 9 when 1;", 4, 14);
        CHECK.faulty("law up 9 rest 20 sees 0 shy 9 when 1;", 4, 22);
        CHECK.faulty("law up 9 rest 20 sees 10 shy 9 when 1;", 4, 22);
        CHECK.faulty("law up 9 rest 20 sees 9 shy 10 when 1;", 4, 28);
        CHECK.faulty("slack 1 to 1 by 1;".repeat(6), 0, -1);
        CHECK.faulty("slack 1 to 1 by 1;".repeat(6) + " slack", 2, 109);
    }

    private static void placesOfFaults() {
        CHECK.faulty("seats", 2, 5);
        CHECK.faulty("seats  \n", 2, 8);
        CHECK.faulty("seats 6", 2, 7);
        CHECK.faulty("seats;", 2, 5);
        CHECK.faulty("seats 6 seats", 2, 8);
        CHECK.faulty("seats 6; seats 6;", 2, 9);
        CHECK.faulty("few 1 to 1; seats 5;", 2, 12);
        CHECK.faulty("few 1 by 1;", 2, 6);
        CHECK.faulty("few 1 1;", 2, 6);
        CHECK.faulty("few 1 to;", 2, 8);
        CHECK.faulty("slack 1 to 2;", 2, 12);
        CHECK.faulty(";", 2, 0);
        CHECK.faulty("7;", 2, 0);
        CHECK.faulty("left 1 to 2;", 2, 0);
        CHECK.faulty("law rest 1", 2, 4);
        CHECK.faulty(LAW + ";", 2, 34);
        CHECK.faulty(LAW + "1", 2, 35);
        CHECK.faulty(LAW + "1; " + LAW, 2, 37);
        CHECK.faulty(LAW + "1; law 7", 2, 37);
        CHECK.faulty(LAW + "left right;", 2, 39);
        CHECK.faulty(LAW + "left+;", 2, 39);
        CHECK.faulty(LAW + "-1;", 2, 34);
        CHECK.faulty(LAW + "left<1<2;", 2, 40);
        CHECK.faulty(LAW + "(left<1)<2;", 0, -1);
        CHECK.faulty(LAW + "1+not 1;", 2, 36);
        CHECK.faulty(LAW + "1 and not not 1;", 0, -1);
        CHECK.faulty(LAW + "1 and or 1;", 2, 40);
        CHECK.faulty(LAW + "(1;", 2, 36);
        CHECK.faulty(LAW + "1);", 2, 35);
        CHECK.faulty(LAW + "();", 2, 35);
        CHECK.faulty(LAW + "few;", 2, 34);
        CHECK.faulty("seats 6; dear 7 $", 4, 14);
        CHECK.faulty("seats 6; $ dear 7", 1, 9);
    }

    private static void unitsAndNesting() {
        CHECK.faulty(LAW + "1" + "*1".repeat(29) + ";", 0, -1);
        CHECK.faulty(LAW + "1" + "*1".repeat(30) + ";", 2, 94);
        CHECK.faulty(LAW + "1" + "*1".repeat(28) + "*(1);", 2, 93);
        CHECK.faulty(LAW + "1" + "*1".repeat(27) + "*(1);", 0, -1);
        CHECK.faulty(LAW + "1" + "*1".repeat(29) + "*(1);", 2, 94);
        CHECK.faulty(LAW + "1" + "*1".repeat(29) + "*$;", 1, 94);
        CHECK.faulty(LAW + "(".repeat(7) + "1" + ")".repeat(7) + ";", 0, -1);
        CHECK.faulty(LAW + "(".repeat(8) + "1" + ")".repeat(8) + ";", 2, 41);
        CHECK.faulty(LAW + "not ".repeat(7) + "1;", 0, -1);
        CHECK.faulty(LAW + "not ".repeat(8) + "1;", 2, 62);
        CHECK.faulty(LAW + "not ".repeat(7) + "(1);", 2, 62);
        CHECK.faulty(LAW + "not(not(not(1)+not 1));", 2, 49);
        CHECK.faulty(LAW + "not(not(not(1)+(not 1)));", 0, -1);
        CHECK.faulty(LAW + "not(not(not(((1))or((1))+(not 1))));", 2, 47);
        CHECK.faulty(LAW + "not(not(not((1)or(not 1)and 2)));", 2, 52);
        CHECK.faulty(LAW + "not(not(not(1)or(not 1)and 2));", 0, -1);
        WaveRing x = CHECK.made(LAW + "not(left)+(1*(2));");
        CHECK.due("units with those in brackets", x.about(8), 6);
        StringBuilder nots = new StringBuilder(LAW);
        for (int i = 0; i < 22; i++) {
            nots.append("not not not not not not not 1 or ");
        }
        CHECK.faulty(nots + "0;", 0, -1);
        x = CHECK.made(nots + "0;");
        CHECK.due("154 nots, each 7 of them 0", x.would(), 0);
        x = CHECK.made(nots + "not 0;");
        CHECK.due("and a not 0", x.would(), 24);
    }
}
