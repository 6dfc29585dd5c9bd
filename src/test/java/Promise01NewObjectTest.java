/** Promise 1: a new object is an empty RING. */
public final class Promise01NewObjectTest {
    public static void main(String[] args) throws ReflectiveOperationException {
        Check.runTests(Promise01NewObjectTest.class);
    }

    static void allIsAtItsBeginning(Check check) {
        WaveRing x = new WaveRing();
        int[] due = {24, 0, 0, 0, 0, 0, 0, 1, 2};
        for (int what = 0; what < due.length; what++) {
            check.due("about(" + what + ")", x.about(what), due[what]);
        }
        for (int way = 0; way < 3; way++) {
            check.due("way(" + way + ")", x.way(way), 0);
        }
        check.due("fault(0)", x.fault(0), 0);
        check.due("fault(1)", x.fault(1), -1);
    }

    static void its24SeatsSitAndNoneIsToldOf(Check check) {
        WaveRing x = new WaveRing();
        for (int seat = 0; seat < 24; seat++) {
            for (int what = 0; what < 4; what++) {
                check.due("seat(" + seat + ", " + what + ")", x.seat(seat, what), 0);
            }
        }
        check.due("seat(24, 0)", x.seat(24, 0), -1);
    }

    static void itsLawIsTheOneThatIsNotTold(Check check) {
        WaveRing x = new WaveRing();
        check.due("by left>0, two seats seen, it goes on", x.lives(5, 1), 200);
        check.due("two seats seen: it jumps one", x.jumps(0, 1, 12), 1);
        check.due("but not to the left: behind a block at its right it dies", dearToTheRight(check), 2);
        check.due("up 2 and rest 4 let two waves go on", x.meet(0, 12, 1), 2);
    }

    /** The law that is not told has up 2: who tries and is seen by nobody who can rise is up for two tenths. */
    private static int dearToTheRight(Check check) {
        return check.made("dear 6 to 7;").lives(5, 1);
    }

    static void nobodyIsUpOrShyAndNothingIsKept(Check check) {
        WaveRing x = new WaveRing();
        check.due("would()", x.would(), 0);
        check.due("wide()", x.wide(), 0);
        check.due("waves()", x.waves(), 0);
        check.due("dies()", x.dies(), 0);
        check.due("till(0, 1)", x.till(0, 1), -1);
        check.due("tryNow(): there are no few", x.tryNow(), 0);
        check.due("run(400)", x.run(400), 0);
        check.due("nothing is drawn", x.about(7), 1);
        for (int box = 0; box < 3; box++) {
            check.due("back(" + box + ")", x.back(box), -1);
        }
        check.due("no film", x.untell(0), false);
        check.due("all plain laws fit", x.fits(0), 324);
    }

    static void twoObjectsHaveNothingInCommon(Check check) {
        WaveRing x = new WaveRing();
        WaveRing y = check.made("seats 8; few 0 to 1; law up 3 rest 1 sees 1 shy 5 when left>0 or right>0;");
        y.tryNow();
        y.run(3);
        y.seed(99);
        y.image(0);
        y.film(0, 1L);
        y.later(5);
        Check.fed(y, "seats");
        check.due("the other one", Check.everything(x), Check.everything(new WaveRing()));
        check.due("its box", x.back(0), -1);
    }
}
