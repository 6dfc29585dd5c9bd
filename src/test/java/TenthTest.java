/** The seats and the tenth: promises 1, 6 to 12, 20, 28 to 31. */
public final class TenthTest {
    private static final Check CHECK = new Check();

    public static void main(String[] args) {
        aNewObject();
        tries();
        runs();
        seats();
        statesGoOn();
        sight();
        looks();
        values();
        wouldAndShy();
        ways();
        wideAndWaves();
        odds();
        images();
        seedAndDraws();
        about();
        CHECK.finish();
    }

    private static void aNewObject() {
        WaveRing x = new WaveRing();
        int[] due = {24, 0, 0, 0, 0, 0, 0, 1, 2, -1};
        for (int what = 0; what < due.length; what++) {
            CHECK.due("about " + what, x.about(what), due[what]);
        }
        CHECK.due("fault(0)", x.fault(0), 0);
        CHECK.due("fault(1)", x.fault(1), -1);
        for (int seat = 0; seat < 24; seat++) {
            for (int what = 0; what < 4; what++) {
                CHECK.due("seat " + seat, x.seat(seat, what), 0);
            }
        }
        for (int i = 0; i < 3; i++) {
            CHECK.due("way", x.way(i), 0);
            CHECK.due("box", x.back(i), -1);
        }
        CHECK.due("up 2, rest 4, sees 2, left > 0: it goes on", x.lives(5, 1), 200);
        CHECK.due("it jumps one", x.jumps(0, 1, 5), 1);
    }

    private static void tries() {
        WaveRing x = CHECK.made("seats 10; few 1 to 4; few 8 to 9; dear 2 to 3; gap 3 to 3; gap 9 to 9; "
            + "law up 1 rest 2 sees 1 shy 0 when 0;");
        CHECK.due("the few who are no gaps", x.tryNow(), 4);
        CHECK.due("a dear one tries", x.seat(2, 0), 1);
        CHECK.due("in a gap nobody", x.seat(3, 0), 40);
        CHECK.due("in a gap nobody rose", x.seat(3, 1), 0);
        CHECK.due("rose", x.seat(8, 1), 1);
        CHECK.due("others sit", x.seat(0, 0), 0);
        CHECK.due("asked", x.about(2), 1);
        CHECK.due("up", x.about(3), 4);
        CHECK.due("nobody of them sits", x.tryNow(), 0);
        CHECK.due("rose once", x.seat(8, 1), 1);
        CHECK.due("asked", x.about(2), 2);
        x.run(2);
        CHECK.due("who rests does not", x.tryNow(), 0);
        x.run(1);
        CHECK.due("now they sit", x.tryNow(), 4);
        CHECK.due("rose twice", x.seat(2, 1), 2);
        CHECK.due("asked", x.about(2), 4);
        CHECK.due("tries are in no way", x.way(0) + x.way(1) + x.way(2), 0);
        CHECK.due("without few", new WaveRing().tryNow(), 0);
    }

    private static void runs() {
        WaveRing x = CHECK.made("seats 8; few 0 to 0; law up 1 rest 2 sees 1 shy 0 when left>0;");
        CHECK.due("run without anybody up", x.run(400), 0);
        CHECK.due("tenths", x.about(1), 400);
        x.tryNow();
        CHECK.due("run(0)", x.run(0), 0);
        CHECK.due("run(-1)", x.run(-1), -1);
        CHECK.due("run(401)", x.run(401), -1);
        CHECK.due("run(greatest)", x.run(Integer.MAX_VALUE), -1);
        CHECK.due("run(least)", x.run(Integer.MIN_VALUE), -1);
        CHECK.due("tenths", x.about(1), 400);
        CHECK.due("run(9)", x.run(9), 9);
        CHECK.due("one round and one more", x.seat(1, 0), 1);
        CHECK.due("rose", x.seat(1, 1), 2);
        CHECK.due("run(400)", x.run(400), 400);
        x = CHECK.made("seats 6; law up 1 rest 0 sees 1 shy 0 when 1;");
        CHECK.due("all rise in each second tenth", x.run(5), 18);
    }

    private static void seats() {
        WaveRing x = CHECK.made("seats 6; dear 1 to 3; gap 3 to 4; few 2 to 4;");
        int[] second = {0, 1, 1, 2, 2, 0};
        int[] third = {0, 0, 1, 1, 1, 0};
        for (int seat = 0; seat < 6; seat++) {
            CHECK.due("what 0 of " + seat, x.seat(seat, 0), second[seat] == 2 ? 40 : 0);
            CHECK.due("what 2 of " + seat, x.seat(seat, 2), second[seat]);
            CHECK.due("what 3 of " + seat, x.seat(seat, 3), third[seat]);
            CHECK.due("what 4 of " + seat, x.seat(seat, 4), -1);
            CHECK.due("what -1 of " + seat, x.seat(seat, -1), -1);
        }
        for (int what = 0; what < 4; what++) {
            CHECK.due("seat(6)", x.seat(6, what), -1);
            CHECK.due("seat(-1)", x.seat(-1, what), -1);
            CHECK.due("seat(least)", x.seat(Integer.MIN_VALUE, what), -1);
        }
    }

    private static void statesGoOn() {
        WaveRing x = CHECK.made("seats 6; few 0 to 0; law up 9 rest 20 sees 1 shy 0 when 0;");
        x.tryNow();
        for (int state = 1; state <= 9; state++) {
            CHECK.due("up for the n-th tenth", x.seat(0, 0), state);
            CHECK.due("up", x.about(3), 1);
            x.run(1);
        }
        for (int state = 11; state <= 30; state++) {
            CHECK.due("rests for the n-th tenth", x.seat(0, 0), state);
            CHECK.due("nobody up", x.about(3), 0);
            x.run(1);
        }
        CHECK.due("sits", x.seat(0, 0), 0);
        x = CHECK.made("seats 6; few 0 to 0; law up 2 rest 0 sees 1 shy 0 when left>0;");
        x.tryNow();
        x.run(2);
        CHECK.due("with rest 0 one sits at once", x.seat(0, 0), 0);
        x = CHECK.made("few 0 to 0;");
        x.tryNow();
        CHECK.due("without a law two are seen", x.run(1), 2);
        int[] due = {2, 11, 12, 13, 14, 0};
        for (int state : due) {
            CHECK.due("without a law up 2, rest 4", x.seat(0, 0), state);
            x.run(1);
        }
        CHECK.due("without a law nobody is shy", x.about(7), 1);
        x = CHECK.made("seats 7; few 0 to 0; dear 2 to 2; gap 4 to 4; law up 1 rest 0 sees 1 shy 0 when tenth=1;");
        CHECK.due("neither dear ones nor gaps", x.run(1), 5);
        CHECK.due("the dear one sits", x.seat(2, 0), 0);
        CHECK.due("the gap", x.seat(4, 0), 40);
    }

    private static void sight() {
        String rest = " rest 9 sees 9 shy 0 when left=1 and right=0 or right*10>9;";
        WaveRing x = CHECK.made("seats 7; few 0 to 0; law up 2" + rest);
        x.tryNow();
        CHECK.due("three on each side of seven", x.run(1), 6);
        CHECK.due("to the right", x.way(0), 3);
        CHECK.due("to the left", x.way(1), 3);
        x = CHECK.made("seats 6; few 0 to 0; law up 2" + rest);
        x.tryNow();
        CHECK.due("two on each side of six", x.run(1), 4);
        CHECK.due("not the one across", x.seat(3, 0), 0);
        x = CHECK.made("seats 40; few 0 to 0; law up 2" + rest);
        x.tryNow();
        CHECK.due("nine on each side", x.run(1), 18);
        CHECK.due("the ninth on the right", x.seat(9, 0), 1);
        CHECK.due("the tenth on the right", x.seat(10, 0), 0);
        CHECK.due("the ninth on the left", x.seat(31, 0), 1);
        CHECK.due("the tenth on the left", x.seat(30, 0), 0);
        x = CHECK.made("seats 9; few 8 to 8; few 0 to 1; law up 3 rest 0 sees 3 shy 0 when left=3;");
        x.tryNow();
        CHECK.due("three on the left across the end", x.run(1), 1);
        CHECK.due("by seat 2", x.seat(2, 0), 1);
        CHECK.due("those up for the second tenth are not seen", x.run(1), 0);
        x = CHECK.made("seats 9; few 7 to 8; few 0 to 0; law up 3 rest 0 sees 3 shy 0 when right=3;");
        x.tryNow();
        CHECK.due("three on the right across the end", x.run(1), 1);
        CHECK.due("by seat 6", x.seat(6, 0), 1);
    }

    /** How many rise in each of some tenths by a law's e. */
    private static void rising(String ahead, String e, int... due) {
        WaveRing x = CHECK.made(ahead + "law up 1 rest 0 sees 1 shy 0 when " + e + ";");
        for (int i = 0; i < due.length; i++) {
            CHECK.due("tenth " + (i + 1) + " by " + e, x.run(1), due[i]);
        }
    }

    private static void looks() {
        rising("seats 6;", "tenth=1 or tenth=4", 6, 0, 0, 6, 0);
        rising("seats 6; slack 2 to 3 by 7; slack 3 to 5 by 8;", "slack=7", 0, 6, 0, 0);
        rising("seats 6; slack 2 to 3 by 7; slack 3 to 5 by 8;", "slack=8", 0, 0, 0, 6, 0, 0);
        rising("seats 6; slack 0 to 0 by 7; slack 2 to 999 by 3;", "slack=0", 6, 0, 0);
        rising("seats 6;", "rose<2", 6, 0, 6, 0, 0, 0);
        rising("seats 6;", "asked", 0, 0);
        rising("seats 6; dear 0 to 3;", "ups=0 and rose=0 or ups=2 and tenth=3", 2, 0, 0);
        WaveRing x = CHECK.made("seats 8; few 0 to 2; law up 4 rest 0 sees 1 shy 0 when asked=2 and ups=3;");
        x.tryNow();
        CHECK.due("asked once", x.run(1), 0);
        x.tryNow();
        CHECK.due("asked twice, three up, none for the first tenth", x.run(1), 5);
        CHECK.due("eight up", x.run(1), 0);
        x = CHECK.made("seats 6; few 0 to 0; law up 1 rest 0 sees 1 shy 0 when rose=1 and ups=0;");
        x.tryNow();
        x.run(1);
        CHECK.due("rose counts who tried", x.run(1), 1);
        CHECK.due("rose", x.seat(0, 1), 2);
    }

    private static void values() {
        String six = "seats 6;";
        rising(six, "2+3*4=14", 6);
        rising(six, "(2+3)*4=20", 6);
        rising(six, "10-3-2=5", 6);
        rising(six, "2-3*4=0-10", 6);
        rising(six, "0-1<0", 6);
        rising(six, "0-1", 6);
        rising(six, "1-1", 0);
        rising(six, "3>3", 0);
        rising(six, "3<3", 0);
        rising(six, "not 3", 0);
        rising(six, "not 3=3", 0);
        rising(six, "not 3=4", 6);
        rising(six, "not 0 and 0", 0);
        rising(six, "(not 0)+(not 0)=2", 6);
        rising(six, "(5 or 0)=1", 6);
        rising(six, "(5 and 7)=1", 6);
        rising(six, "(5<7)*3+(7<5)=3", 6);
        rising(six, "(5)=5", 6);
        rising(six, "(7>5)*3=3", 6);
        rising(six, "(5=5)*3=3", 6);
        rising(six, "(not 0)*3=3", 6);
        rising(six, "1 or 0 and 0", 6);
        rising(six, "(1 or 0) and 0", 0);
        rising(six, "0 and 0 or 1", 6);
        rising(six, "9999*9999*9999<0", 6);
        rising(six, "9999*9999*9999=0-1*(2*9999*9999)*0+9999*9999*9999", 6);
        rising(six, "2048*2048*1024=0", 6);
        rising(six, "2048*2048*512<0", 6);
        rising(six, "2048*2048*512-1>0", 6);
    }

    private static void wouldAndShy() {
        WaveRing x = CHECK.made("seats 6; few 0 to 0; law up 1 rest 1 sees 1 shy 9 when left+right>0;");
        x.tryNow();
        CHECK.due("would", x.would(), 2);
        CHECK.due("would changes nothing", x.would(), 2);
        CHECK.due("would draws nothing", x.about(7), 1);
        // 1103527590 >>> 16 is 16838, -1770082073 >>> 16 is 38526: with shy 9 the draws 8 and 6 let nobody rise.
        CHECK.due("run", x.run(1), 0);
        CHECK.due("two draws", x.about(7), -1770082073);
        x = CHECK.made("seats 6; few 0 to 0; law up 1 rest 1 sees 1 shy 7 when left+right>0;");
        x.tryNow();
        CHECK.due("8 is not below 7, 6 is", x.run(1), 1);
        CHECK.due("seat 1 is drawn ahead of seat 5", x.seat(1, 0), 1);
        CHECK.due("seat 5 is shy", x.seat(5, 0), 0);
        CHECK.due("seat 5 rose not", x.seat(5, 1), 0);
        CHECK.due("only who rises counts in a way", x.way(1), 0);
        x = CHECK.made("seats 6; few 0 to 0; law up 1 rest 1 sees 1 shy 8 when left+right>0;");
        x.tryNow();
        CHECK.due("8 is not below 8", x.run(1), 1);
        x = CHECK.made("seats 6; few 0 to 0; dear 1 to 1; gap 5 to 5; law up 2 rest 1 sees 1 shy 5 when 1;");
        x.tryNow();
        x.run(1);
        CHECK.due("three draws: none for dear ones, gaps, and who does not sit", x.about(7), drawnTimes(3));
        x = CHECK.made("seats 6; law up 1 rest 0 sees 1 shy 5 when 1;");
        x.seed(4711);
        x.run(1);
        int w = 4711;
        for (int seat = 0; seat < 6; seat++) {
            w = w * 1103515245 + 12345;
            CHECK.due("the draw for seat " + seat, x.seat(seat, 0), (w >>> 16) % 10 < 5 ? 0 : 1);
        }
        CHECK.due("six draws", x.about(7), w);
        x = CHECK.made("seats 6; law up 1 rest 0 sees 1 shy 0 when 1;");
        x.run(3);
        CHECK.due("nothing is drawn if shy is 0", x.about(7), 1);
    }

    /** w behind so many draws. */
    private static int drawnTimes(int times) {
        int w = 1;
        for (int i = 0; i < times; i++) {
            w = w * 1103515245 + 12345;
        }
        return w;
    }

    private static void ways() {
        WaveRing x = CHECK.made("seats 9; few 0 to 0; few 4 to 4; law up 1 rest 9 sees 2 shy 0 when left>0 or right>0;");
        x.tryNow();
        x.run(1);
        CHECK.due("to the right: 1, 5, 6", x.way(0), 3);
        CHECK.due("to the left: 3, 7, 8", x.way(1), 3);
        CHECK.due("in neither: 2", x.way(2), 1);
        CHECK.due("way(3)", x.way(3), -1);
        CHECK.due("way(-1)", x.way(-1), -1);
        x = CHECK.made("seats 6; law up 1 rest 0 sees 1 shy 0 when tenth=1;");
        x.run(1);
        CHECK.due("nobody on either side", x.way(2), 6);
        CHECK.due("right", x.way(0), 0);
        CHECK.due("left", x.way(1), 0);
    }

    private static void wideAndWaves() {
        String law = " law up 1 rest 0 sees 1 shy 0 when 0;";
        WaveRing x = CHECK.made("seats 12; few 11 to 11; few 0 to 2; few 5 to 6; few 8 to 8;" + law);
        CHECK.due("wide of none", x.wide(), 0);
        CHECK.due("waves of none", x.waves(), 0);
        x.tryNow();
        CHECK.due("wide round", x.wide(), 4);
        CHECK.due("waves round", x.waves(), 3);
        x = CHECK.made("seats 12; few 0 to 11;" + law);
        x.tryNow();
        CHECK.due("wide of all", x.wide(), 12);
        CHECK.due("waves of all", x.waves(), 1);
        x = CHECK.made("seats 12; few 0 to 11; gap 3 to 3;" + law);
        x.tryNow();
        CHECK.due("wide with a gap", x.wide(), 11);
        CHECK.due("waves with a gap", x.waves(), 1);
        x = CHECK.made("seats 40; few 0 to 39; gap 3 to 3; gap 20 to 21;" + law);
        x.tryNow();
        CHECK.due("wide with two gaps", x.wide(), 21);
        CHECK.due("waves with two gaps", x.waves(), 2);
        x = CHECK.made("seats 8; few 0 to 0; law up 3 rest 1 sees 1 shy 0 when left>0;");
        x.tryNow();
        x.run(3);
        CHECK.due("those up for a later tenth too", x.wide(), 3);
        CHECK.due("who rests is not up", x.about(3), 3);
    }

    private static void oddsDue(WaveRing x, int m, long upper, long lower) {
        CHECK.due("upper of " + m, x.odds(m, 0), upper);
        CHECK.due("lower of " + m, x.odds(m, 1), lower);
    }

    private static void odds() {
        WaveRing x = CHECK.made("seats 15; law up 1 rest 0 sees 1 shy 3 when 1;");
        oddsDue(x, 0, 1, 1);
        oddsDue(x, 15, 4747561509943L, 1000000000000000L);
        oddsDue(x, 1, 1000000000000000L - 14348907L, 1000000000000000L);
        oddsDue(x, 16, 0, 1);
        oddsDue(x, 40, 0, 1);
        oddsDue(x, -1, -1, -1);
        oddsDue(x, 41, -1, -1);
        CHECK.due("part 2", x.odds(1, 2), -1);
        CHECK.due("part -1", x.odds(1, -1), -1);
        CHECK.due("nothing is drawn", x.about(7), 1);
        x = CHECK.made("seats 16; law up 1 rest 0 sees 1 shy 3 when 1;");
        oddsDue(x, 0, -2, -2);
        oddsDue(x, 40, -2, -2);
        CHECK.due("part 2 when spent", x.odds(1, 2), -1);
        CHECK.due("41 when spent", x.odds(41, 0), -1);
        x = CHECK.made("seats 16; dear 3 to 3; law up 1 rest 0 sees 1 shy 0 when 1;");
        oddsDue(x, 15, 1, 1);
        oddsDue(x, 16, 0, 1);
        x = CHECK.made("seats 6; few 0 to 0; law up 1 rest 0 sees 1 shy 4 when left+right>0;");
        oddsDue(x, 0, 1, 1);
        oddsDue(x, 1, 0, 1);
        x.tryNow();
        oddsDue(x, 1, 21, 25);
        oddsDue(x, 2, 9, 25);
        oddsDue(x, 3, 0, 1);
    }

    private static void images() {
        WaveRing x = CHECK.made("seats 9; few 0 to 0; law up 2 rest 2 sees 1 shy 4 when left+right>0;");
        CHECK.due("image(-1)", x.image(-1), -1);
        CHECK.due("image(3)", x.image(3), -1);
        CHECK.due("back(-1)", x.back(-1), -1);
        CHECK.due("back(3)", x.back(3), -1);
        CHECK.due("back(2) of nothing", x.back(2), -1);
        x.seed(1234567);
        x.tryNow();
        x.run(3);
        CHECK.due("image(2)", x.image(2), 3);
        CHECK.due("back(1) of nothing", x.back(1), -1);
        long before = all(x);
        int first = x.run(9);
        x.tryNow();
        x.seed(5);
        long behind = all(x);
        CHECK.due("image(1)", x.image(1), 12);
        CHECK.due("back(2)", x.back(2), 3);
        CHECK.due("all is as it was", all(x), before);
        CHECK.due("and goes on as it did", x.run(9), first);
        CHECK.due("back(1)", x.back(1), 12);
        CHECK.due("all is as it was behind", all(x), behind);
        CHECK.due("back(2) again", x.back(2), 3);
        CHECK.due("all is as it was, again", all(x), before);
        CHECK.due("image over it", x.image(1), 3);
        x.run(1);
        CHECK.due("the later image", x.back(1), 3);
        waysAreKept("left>0", 0);
        waysAreKept("right>0", 1);
        waysAreKept("tenth<9", 2);
    }

    private static void waysAreKept(String e, int way) {
        WaveRing x = CHECK.made("seats 9; few 0 to 0; law up 1 rest 0 sees 1 shy 0 when " + e + ";");
        x.tryNow();
        x.run(2);
        int before = x.way(way);
        x.image(0);
        x.run(2);
        CHECK.due("the way is gone more", x.way(way) > before, true);
        x.back(0);
        CHECK.due("the way is as kept", x.way(way), before);
    }

    /** One number of all that an image keeps. */
    private static long all(WaveRing x) {
        long together = 17;
        for (int seat = 0; seat < x.about(0); seat++) {
            together = together * 31 + x.seat(seat, 0);
            together = together * 31 + x.seat(seat, 1);
        }
        for (int i = 0; i < 3; i++) {
            together = together * 31 + x.way(i);
        }
        return ((together * 31 + x.about(1)) * 31 + x.about(2)) * 31 + x.about(7);
    }

    private static void seedAndDraws() {
        WaveRing x = new WaveRing();
        CHECK.due("seed(-1)", x.seed(-1), 1);
        CHECK.due("w may be -1", x.about(7), -1);
        CHECK.due("seed(least)", x.seed(Integer.MIN_VALUE), -1);
        CHECK.due("seed(0)", x.seed(0), Integer.MIN_VALUE);
        Check.tell(x, "seats 6; dear 0 to 4; law up 1 rest 0 sees 1 shy 1 when 1;");
        // 12345 >>> 16 is 0, and 0 is below 1.
        CHECK.due("run(1)", x.run(1), 0);
        CHECK.due("w", x.about(7), 12345);
    }

    private static void about() {
        WaveRing x = CHECK.made("seats 11; few 3 to 4; law up 2 rest 0 sees 1 shy 0 when left>0 and (1);");
        x.tryNow();
        x.tryNow();
        x.tryNow();
        x.run(1);
        x.film(1, 1L);
        x.film(1, 1L);
        x.untell(0);
        x.later(9);
        x.feed(1, 2, 3, 4, 5);
        x.seed(77);
        int[] due = {11, 1, 3, 3, 2, 9, 20, 77, 4};
        for (int what = 0; what < due.length; what++) {
            CHECK.due("about " + what, x.about(what), due[what]);
        }
        CHECK.due("about(9)", x.about(9), -1);
        CHECK.due("about(-1)", x.about(-1), -1);
        CHECK.due("about(least)", x.about(Integer.MIN_VALUE), -1);
    }
}
