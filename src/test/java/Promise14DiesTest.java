/** Promise 14: dies. */
public final class Promise14DiesTest {
    private static final String ONE = "seats 6; few 0 to 0; law up 1 rest 0 sees 1 shy 0 when ";

    public static void main(String[] args) throws ReflectiveOperationException {
        Check.runTests(Promise14DiesTest.class);
    }

    static void zeroIfNobodyIsUpNow(Check check) {
        check.due("nothing was tried", check.made(ONE + "left>0;").dies(), 0);
        check.due("all would rise", check.made(ONE + "1;").dies(), 0);
        WaveRing x = check.tried("seats 6; few 0 to 0; law up 1 rest 9 sees 1 shy 0 when 0;");
        check.due("one is up", x.dies(), 1);
        x.run(1);
        check.due("who rests is not up", x.dies(), 0);
    }

    static void asManyTenthsAsOneIsUp(Check check) {
        for (int up = 1; up <= 9; up++) {
            WaveRing x = check.tried("seats 6; few 0 to 0; law up " + up + " rest 3 sees 1 shy 0 when 0;");
            for (int left = up; left >= 0; left--) {
                check.due("up " + up, x.dies(), left);
                x.run(1);
            }
        }
    }

    static void atABlockItDies(Check check) {
        WaveRing x = check.tried("seats 12; few 0 to 0; dear 7 to 7; law up 3 rest 2 sees 1 shy 0 when left>0;");
        check.due("six rise, the last is up for three", x.dies(), 9);
        x.run(8);
        check.due("one more", x.dies(), 1);
        x.run(1);
        check.due("none more", x.dies(), 0);
    }

    static void atMost400Tenths(Check check) {
        check.due("399", check.tried(ONE + "left>0 and tenth<399;").dies(), 399);
        check.due("400", check.tried(ONE + "left>0 and tenth<400;").dies(), 400);
        WaveRing x = check.tried(ONE + "left>0 and tenth<401;");
        check.due("401", x.dies(), -1);
        x.run(1);
        check.due("400 from now", x.dies(), 400);
        check.due("never", check.tried(ONE + "left>0;").dies(), -1);
    }

    static void theFirstTimeThatNobodyIsUp(Check check) {
        WaveRing x = check.tried(ONE + "tenth=3 or tenth=9;");
        check.due("though they rise again", x.dies(), 1);
    }

    static void asIfShyWere0(Check check) {
        WaveRing x = check.tried("seats 6; few 0 to 0; dear 4 to 4; law up 1 rest 2 sees 1 shy 9 when left>0;");
        check.due("dies()", x.dies(), 4);
        check.due("nothing is drawn", x.about(7), 1);
    }

    static void allStaysAsItWas(Check check) {
        WaveRing x = check.tried("seats 8; few 0 to 1; law up 2 rest 2 sees 2 shy 3 when left>0 or right>1;");
        x.run(2);
        String before = Check.everything(x);
        x.dies();
        check.due("all", Check.everything(x), before);
    }
}
