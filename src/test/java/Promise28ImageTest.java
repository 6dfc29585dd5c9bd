/** Promise 28: image. */
public final class Promise28ImageTest {
    public static void main(String[] args) throws ReflectiveOperationException {
        Check.runTests(Promise28ImageTest.class);
    }

    static void boxesAre0To2(Check check) {
        WaveRing x = check.made("seats 6;");
        x.run(7);
        int[] others = {-1, 3, 4, Check.LEAST, Check.GREATEST};
        for (int box : others) {
            check.due("image(" + box + ")", x.image(box), -1);
        }
        for (int box = 0; box < 3; box++) {
            check.due("nothing was kept: back(" + box + ")", x.back(box), -1);
        }
        for (int box = 0; box < 3; box++) {
            check.due("image(" + box + ")", x.image(box), 7);
        }
    }

    static void itAnswersTheTenth(Check check) {
        WaveRing x = check.made("seats 6;");
        check.due("at first", x.image(0), 0);
        x.run(1);
        check.due("behind one", x.image(0), 1);
        x.run(400);
        check.due("behind 401", x.image(2), 401);
        x.tryNow();
        check.due("a try is no tenth", x.image(2), 401);
    }

    static void nothingChangesByIt(Check check) {
        WaveRing x = check.tried("seats 8; few 0 to 1; law up 2 rest 2 sees 2 shy 3 when left>0 or right>1;");
        x.run(2);
        String before = Check.everything(x);
        x.image(0);
        x.image(1);
        x.image(3);
        check.due("all", Check.everything(x), before);
    }

    static void aLaterImageTakesItsPlace(Check check) {
        WaveRing x = check.made("seats 6;");
        x.run(2);
        x.image(1);
        x.run(3);
        x.image(1);
        x.run(4);
        check.due("back(1)", x.back(1), 5);
        check.due("about(1)", x.about(1), 5);
    }

    static void eachBoxKeepsItsOwn(Check check) {
        WaveRing x = check.tried("seats 9; few 0 to 0; law up 2 rest 1 sees 1 shy 4 when left+right>0;");
        String[] kept = new String[3];
        for (int box = 0; box < 3; box++) {
            kept[box] = Check.crowd(x);
            check.due("image(" + box + ")", x.image(box), 2 * box);
            x.run(2);
        }
        for (int box = 2; box >= 0; box--) {
            check.due("back(" + box + ")", x.back(box), 2 * box);
            check.due("box " + box, Check.crowd(x), kept[box]);
        }
        check.due("back(2) again", x.back(2), 4);
        check.due("box 2", Check.crowd(x), kept[2]);
    }

    static void whatIsKeptStaysAsItWas(Check check) {
        WaveRing x = check.tried("seats 8; few 0 to 1; law up 2 rest 2 sees 2 shy 3 when left>0 or right>1;");
        x.image(0);
        String kept = Check.crowd(x);
        x.run(5);
        x.tryNow();
        x.seed(9);
        x.lives(0, 3);
        x.till(3, 2);
        x.back(0);
        check.due("box 0", Check.crowd(x), kept);
        x.run(3);
        x.back(0);
        check.due("box 0 again", Check.crowd(x), kept);
    }
}
