/** What comes, and what comes from a fresh ring: promises 13 to 19. */
public final class ComesTest {
    private static final Check CHECK = new Check();
    private static final String ROUND = "law up 1 rest 2 sees 1 shy 0 when left>0;";

    public static void main(String[] args) {
        till();
        dies();
        nothingChanges();
        lives();
        fewest();
        best();
        jumps();
        meet();
        CHECK.finish();
    }

    private static void till() {
        WaveRing x = CHECK.made("seats 40; few 0 to 0; " + ROUND);
        CHECK.due("nobody is up", x.till(0, 1), -1);
        x.tryNow();
        CHECK.due("till(1, 1)", x.till(1, 1), 1);
        CHECK.due("till(0, 1): one round", x.till(0, 1), 40);
        CHECK.due("till(39, 9)", x.till(39, 9), 359);
        CHECK.due("till(0, 9)", x.till(0, 9), 360);
        CHECK.due("till(1, 0)", x.till(1, 0), -1);
        CHECK.due("till(5, 0)", x.till(5, 0), -1);
        CHECK.due("till(64, 1)", x.till(64, 1), -1);
        CHECK.due("till(1, 10)", x.till(1, 10), -1);
        CHECK.due("till(1, -1)", x.till(1, -1), -1);
        CHECK.due("till(40, 1)", x.till(40, 1), -1);
        CHECK.due("till(-1, 1)", x.till(-1, 1), -1);
        x = CHECK.made("seats 6; law up 1 rest 0 sees 1 shy 0 when tenth=400;");
        CHECK.due("in the 400th tenth", x.till(5, 1), 400);
        CHECK.due("not twice", x.till(5, 2), -1);
        x = CHECK.made("seats 6; dear 1 to 1; gap 2 to 2; law up 1 rest 0 sees 1 shy 0 when tenth=401;");
        CHECK.due("in the 401st tenth", x.till(5, 1), -1);
        x.run(1);
        CHECK.due("in the 400th from now", x.till(5, 1), 400);
        CHECK.due("never a dear one", x.till(1, 1), -1);
        CHECK.due("never in a gap", x.till(2, 1), -1);
        x = CHECK.made("seats 8; few 0 to 0; law up 1 rest 2 sees 1 shy 9 when left>0;");
        x.tryNow();
        CHECK.due("as if nobody were shy", x.till(7, 1), 7);
        CHECK.due("times more than it rose", x.till(0, 1), 8);
    }

    private static void dies() {
        WaveRing x = CHECK.made("seats 12; few 0 to 0; dear 7 to 7; law up 3 rest 2 sees 1 shy 0 when left>0;");
        CHECK.due("nobody is up", x.dies(), 0);
        x.tryNow();
        CHECK.due("six rise, the last is up three", x.dies(), 9);
        x.run(8);
        CHECK.due("one more", x.dies(), 1);
        x.run(1);
        CHECK.due("none more", x.dies(), 0);
        x = CHECK.made("seats 12; few 0 to 0; law up 3 rest 2 sees 1 shy 9 when left>0;");
        x.tryNow();
        CHECK.due("never", x.dies(), -1);
        x = CHECK.made("seats 6; few 0 to 0; law up 1 rest 0 sees 1 shy 0 when left>0 and tenth<400;");
        x.tryNow();
        CHECK.due("in 400 tenths", x.dies(), 400);
        x = CHECK.made("seats 6; few 0 to 0; law up 1 rest 0 sees 1 shy 0 when left>0 and tenth<401;");
        x.tryNow();
        CHECK.due("in 401 tenths", x.dies(), -1);
        x.run(1);
        CHECK.due("in 400 from now", x.dies(), 400);
    }

    private static void nothingChanges() {
        WaveRing x = CHECK.made("seats 9; few 0 to 0; law up 2 rest 1 sees 2 shy 5 when left>1 or right*asked>0;");
        x.tryNow();
        x.run(4);
        long before = all(x);
        x.till(3, 2);
        x.dies();
        x.lives(0, 3);
        x.fewest(2);
        x.best(2, 0);
        x.jumps(0, 2, 4);
        x.meet(0, 4, 2);
        x.would();
        x.odds(1, 0);
        x.fits(0);
        x.same(1, 2);
        CHECK.due("all stays", all(x), before);
    }

    private static long all(WaveRing x) {
        long together = 17;
        for (int seat = 0; seat < x.about(0); seat++) {
            together = (together * 31 + x.seat(seat, 0)) * 31 + x.seat(seat, 1);
        }
        for (int i = 0; i < 3; i++) {
            together = together * 31 + x.way(i);
        }
        for (int i = 0; i < 9; i++) {
            together = together * 31 + x.about(i);
        }
        return together;
    }

    private static void lives() {
        WaveRing x = CHECK.made("seats 14; few 0 to 13; dear 5 to 5; gap 9 to 10; law up 2 rest 3 sees 1 shy 8 when left>0;");
        x.tryNow();
        x.run(7);
        CHECK.due("from a fresh ring up to the dear one", x.lives(0, 1), 6);
        CHECK.due("two more", x.lives(3, 2), 2);
        CHECK.due("a dear one can start", x.lives(5, 1), 5);
        CHECK.due("nobody in gaps", x.lives(9, 2), 0);
        CHECK.due("gaps are left out", x.lives(8, 3), 2);
        CHECK.due("they are counted", x.lives(9, 4), 8);
        CHECK.due("round", x.lives(13, 2), 6);
        CHECK.due("12", x.lives(0, 12), 4);
        CHECK.due("13", x.lives(0, 13), -1);
        CHECK.due("0", x.lives(0, 0), -1);
        CHECK.due("-1", x.lives(0, -1), -1);
        CHECK.due("seat 14", x.lives(14, 1), -1);
        CHECK.due("seat -1", x.lives(-1, 1), -1);
        x = CHECK.made("seats 7; law up 1 rest 1 sees 1 shy 0 when left>0 and tenth<200;");
        CHECK.due("7 of 7", x.lives(3, 7), 1);
        CHECK.due("8 of 7", x.lives(3, 8), -1);
        CHECK.due("200", x.lives(3, 1), 200);
        x = CHECK.made("seats 7; law up 1 rest 1 sees 1 shy 0 when left>0 and tenth<199;");
        CHECK.due("199", x.lives(3, 1), 199);
        x = CHECK.made("seats 7; law up 1 rest 1 sees 1 shy 0 when left>0;");
        CHECK.due("on and on", x.lives(3, 1), 200);
        x = CHECK.made("seats 7; few 2 to 2; law up 1 rest 1 sees 1 shy 0 when left*asked=1 and tenth<50;");
        x.tryNow();
        x.tryNow();
        CHECK.due("asked once, from tenth 1 on", x.lives(3, 1), 50);
        x = CHECK.made("seats 7; law up 1 rest 0 sees 1 shy 0 when left>0 and rose=0;");
        CHECK.due("rose is 1 by those who tried", x.lives(0, 1), 7);
        x = CHECK.made("seats 7; slack 1 to 4 by 2; slack 3 to 20 by 1; law up 1 rest 0 sees 1 shy 0 when left>0 and slack;");
        CHECK.due("slack", x.lives(0, 1), 21);
    }

    private static void fewest() {
        String law = " law up 3 rest 3 sees 5 shy 0 when left>2;";
        WaveRing x = CHECK.made("seats 30;" + law);
        CHECK.due("three are needed", x.fewest(0), 3);
        CHECK.due("anywhere", x.fewest(29), 3);
        CHECK.due("seat 30", x.fewest(30), -1);
        CHECK.due("seat -1", x.fewest(-1), -1);
        x = CHECK.made("seats 30; dear 19 to 24;" + law);
        CHECK.due("never with a block", x.fewest(0), -1);
        x = CHECK.made("seats 20; gap 1 to 1; law up 1 rest 3 sees 2 shy 0 when left>0;");
        CHECK.due("two with a gap among them", x.fewest(1), 2);
        CHECK.due("one with a gap behind it", x.fewest(0), 1);
        x = CHECK.made("seats 40; law up 2 rest 3 sees 9 shy 0 when left>8 or left>0 and tenth>1;");
        CHECK.due("nine", x.fewest(30), 9);
        x = CHECK.made("seats 40; law up 9 rest 0 sees 1 shy 0 when ups>12;");
        CHECK.due("13 would do", x.fewest(30), -1);
        x = CHECK.made("seats 6; law up 9 rest 0 sees 1 shy 0 when ups>5;");
        CHECK.due("no more than there are", x.fewest(0), -1);
        x = CHECK.made("seats 40; law up 9 rest 0 sees 1 shy 0 when (ups>11 or tenth>1)*ups;");
        CHECK.due("12 at the most", x.fewest(0), 1);
        x = CHECK.made("seats 40; law up 1 rest 0 sees 1 shy 0 when ups>11;");
        CHECK.due("12", x.fewest(0), 12);
    }

    private static void best() {
        WaveRing x = CHECK.made("seats 10; dear 4 to 4; gap 9 to 9; law up 1 rest 3 sees 1 shy 0 when left>0;");
        CHECK.due("from the dear one itself", x.best(1, 0), 4);
        CHECK.due("five", x.best(1, 1), 5);
        CHECK.due("two", x.best(2, 0), 3);
        CHECK.due("two live", x.best(2, 1), 5);
        CHECK.due("ten", x.best(10, 0), 0);
        CHECK.due("ten live", x.best(10, 1), 1);
        CHECK.due("eleven", x.best(11, 0), -1);
        CHECK.due("none", x.best(0, 1), -1);
        CHECK.due("what 2", x.best(1, 2), -1);
        CHECK.due("what -1", x.best(1, -1), -1);
        x = CHECK.made("seats 40; " + ROUND);
        CHECK.due("12", x.best(12, 1), 200);
        CHECK.due("13", x.best(13, 1), -1);
        CHECK.due("the least", x.best(12, 0), 0);
        x = CHECK.made("seats 6; gap 0 to 5;");
        CHECK.due("gaps alone", x.best(1, 0), 0);
        CHECK.due("gaps alone live", x.best(1, 1), 0);
        x = CHECK.made("seats 8; gap 0 to 2; law up 1 rest 0 sees 1 shy 0 when left+right>0;");
        CHECK.due("the first that goes on", x.best(1, 0), 3);
        CHECK.due("it goes on", x.best(1, 1), 200);
    }

    private static void jumps() {
        WaveRing x = CHECK.made("seats 40; law up 1 rest 3 sees 9 shy 0 when left>0;");
        CHECK.due("nine seen, eight jumped", x.jumps(0, 1, 20), 8);
        CHECK.due("seat 40", x.jumps(40, 1, 0), -1);
        CHECK.due("at seat 40", x.jumps(0, 1, 40), -1);
        CHECK.due("seat -1", x.jumps(-1, 1, 0), -1);
        CHECK.due("at seat -1", x.jumps(0, 1, -1), -1);
        CHECK.due("by 0", x.jumps(0, 0, 3), -1);
        CHECK.due("by 13", x.jumps(0, 13, 3), -1);
        x = CHECK.made("seats 40; law up 1 rest 2 sees 9 shy 0 when left>0;");
        CHECK.due("across the end", x.jumps(5, 1, 38), 8);
        x = CHECK.made("seats 40; dear 18 to 19; law up 1 rest 3 sees 9 shy 0 when left>0;");
        CHECK.due("besides all others", x.jumps(0, 1, 20), 6);
        CHECK.due("over dear ones", x.jumps(0, 1, 18), 8);
        x = CHECK.made("seats 40; law up 1 rest 3 sees 1 shy 0 when left>0 and tenth<150;");
        CHECK.due("not with 0", x.jumps(0, 1, 20), -1);
        x = CHECK.made("seats 40; law up 1 rest 0 sees 1 shy 0 when tenth>1 and ups<20 or left>0;");
        CHECK.due("nine at the most", x.jumps(0, 1, 20), 9);
        x = CHECK.made("seats 8; law up 1 rest 2 sees 1 shy 0 when left>0 and (tenth>1 or left>0) or tenth=1 and left>0;");
        CHECK.due("none", x.jumps(0, 1, 4), 0);
        x = CHECK.made("seats 12; law up 2 rest 1 sees 3 shy 0 when left>0;");
        CHECK.due("a block with those of the n in it", x.jumps(4, 2, 4), 2);
        // By 20 up in the tenth behind the first it lives on for ever: the block takes away just what is too many.
        x = CHECK.made("seats 20; law up 1 rest 0 sees 1 shy 0 when tenth=1 or ups>0 and (ups<12 or ups=19);");
        CHECK.due("19 rise with none", x.lives(0, 1), 200);
        CHECK.due("with eight in the block it goes on, with less it does not", x.jumps(0, 1, 1), 9);
        CHECK.due("with a dear one and 18 up it dies", dearLives(1), 2);
        CHECK.due("with seven and 12 up it dies", dearLives(7), 2);
        CHECK.due("with eight and 11 up it lives", dearLives(8), 200);
    }

    private static int dearLives(int block) {
        WaveRing x = CHECK.made("seats 20; dear 1 to " + block + "; law up 1 rest 0 sees 1 shy 0 when tenth=1 or ups>0 and (ups<12 or ups=19);");
        return x.lives(0, 1);
    }

    private static void meet() {
        WaveRing x = CHECK.made("seats 30; " + ROUND);
        CHECK.due("two go on", x.meet(0, 15, 1), 2);
        CHECK.due("one and the same", x.meet(7, 7, 3), 1);
        CHECK.due("side by side", x.meet(3, 5, 2), 1);
        CHECK.due("seat 30", x.meet(30, 0, 1), -1);
        CHECK.due("and seat 30", x.meet(0, 30, 1), -1);
        CHECK.due("seat -1", x.meet(-1, 0, 1), -1);
        CHECK.due("and seat -1", x.meet(0, -1, 1), -1);
        CHECK.due("by 0", x.meet(0, 1, 0), -1);
        CHECK.due("by 13", x.meet(0, 1, 13), -1);
        CHECK.due("by 12", x.meet(0, 20, 12), 1);
        x = CHECK.made("seats 30; law up 1 rest 2 sees 1 shy 0 when left>0 or right>0;");
        CHECK.due("what meets dies", x.meet(0, 15, 1), 0);
        x = CHECK.made("seats 30; law up 1 rest 2 sees 1 shy 0 when left>0 and tenth<61;");
        CHECK.due("behind 60 tenths", x.meet(0, 15, 1), 2);
        x = CHECK.made("seats 30; law up 1 rest 2 sees 1 shy 0 when left>0 and tenth<60;");
        CHECK.due("not behind 60 tenths", x.meet(0, 15, 1), 0);
        x = CHECK.made("seats 30; law up 1 rest 2 sees 1 shy 0 when left>0 and asked=1;");
        CHECK.due("they try at once", x.meet(0, 15, 1), 2);
        x = CHECK.made("seats 30; gap 14 to 15; " + ROUND);
        CHECK.due("not from gaps", x.meet(14, 15, 1), 0);
    }
}
