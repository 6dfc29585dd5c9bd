/** Promise 9: would. */
public final class Promise09WouldTest {
    public static void main(String[] args) throws ReflectiveOperationException {
        Check.runTests(Promise09WouldTest.class);
    }

    static void fromNobodyToAll(Check check) {
        check.due("nobody", check.made("seats 40; law up 1 rest 0 sees 1 shy 0 when 0;").would(), 0);
        check.due("all", check.made("seats 40; law up 1 rest 0 sees 1 shy 0 when 1;").would(), 40);
        check.due("all but dear ones and gaps",
            check.made("seats 40; dear 0 to 2; gap 2 to 4; dear 39 to 39; law up 1 rest 0 sees 1 shy 0 when 1;").would(), 34);
        check.due("all are dear", check.made("seats 40; dear 0 to 39; law up 1 rest 0 sees 1 shy 0 when 1;").would(), 0);
    }

    static void asIfNobodyWereShy(Check check) {
        for (int shy = 0; shy <= 9; shy++) {
            WaveRing x = check.tried("seats 8; few 0 to 0; law up 1 rest 1 sees 2 shy " + shy + " when left+right>0;");
            check.due("shy " + shy, x.would(), 4);
        }
    }

    static void onlyThoseWhoSit(Check check) {
        WaveRing x = check.made("seats 6; few 0 to 1; law up 2 rest 1 sees 1 shy 0 when 1;");
        x.tryNow();
        check.due("two are up", x.would(), 4);
        x.run(1);
        check.due("all are up", x.would(), 0);
        x.run(1);
        check.due("two rest", x.would(), 0);
        x.run(1);
        check.due("two sit", x.would(), 2);
    }

    static void itIsWhatTheNextTenthDoes(Check check) {
        WaveRing x = check.tried("seats 12; few 0 to 1; few 6 to 6; slack 3 to 4 by 1; "
            + "law up 2 rest 1 sees 2 shy 0 when left+slack>1 or right=1 and tenth>2;");
        for (int i = 0; i < 40; i++) {
            int due = x.would();
            check.due("tenth " + (i + 1), x.run(1), due);
        }
    }

    static void nothingChanges(Check check) {
        WaveRing x = check.tried("seats 8; few 0 to 0; law up 1 rest 1 sees 2 shy 5 when left+right>0;");
        String before = Check.everything(x);
        x.would();
        x.would();
        check.due("all, w too", Check.everything(x), before);
    }
}
