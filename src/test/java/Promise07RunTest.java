/** Promise 7: run, and what a TENTH is (the second of the terms). */
public final class Promise07RunTest {
    public static void main(String[] args) throws ReflectiveOperationException {
        Check.runTests(Promise07RunTest.class);
    }

    static void tenthsAre0To400(Check check) {
        WaveRing x = check.tried("seats 8; few 0 to 0; law up 1 rest 2 sees 1 shy 0 when left>0;");
        check.due("run(0)", x.run(0), 0);
        check.due("tenths", x.about(1), 0);
        check.due("run(1)", x.run(1), 1);
        check.due("tenths", x.about(1), 1);
        check.due("run(399)", x.run(399), 399);
        check.due("tenths", x.about(1), 400);
        check.due("run(400)", x.run(400), 400);
        check.due("tenths", x.about(1), 800);
    }

    static void anotherNumberDoesNothing(Check check) {
        WaveRing x = check.tried("seats 8; few 0 to 0; law up 1 rest 2 sees 1 shy 5 when left>0;");
        String before = Check.everything(x);
        int[] others = {-1, 401, Check.LEAST, Check.GREATEST, -400};
        for (int tenths : others) {
            check.due("run(" + tenths + ")", x.run(tenths), -1);
        }
        check.due("run(0)", x.run(0), 0);
        check.due("all", Check.everything(x), before);
    }

    /** More than 1,000,000 can't be reached by 512 calls; as many as can be are let. */
    static void asManyTenthsAs500RunsAreLet(Check check) {
        WaveRing x = check.tried("seats 6; few 0 to 0; law up 1 rest 0 sees 1 shy 0 when left>0;");
        for (int i = 0; i < 500; i++) {
            check.due("run(400)", x.run(400), 400);
        }
        check.due("tenths", x.about(1), 200000);
    }

    /** With all seats in each second tenth, more than 1,000,000 rise in 500 runs: that is no bound. */
    static void asManyRiseAsCan(Check check) {
        WaveRing x = check.made("seats 40; law up 1 rest 0 sees 1 shy 0 when 1;");
        for (int i = 0; i < 500; i++) {
            check.due("run(400)", x.run(400), 8000);
        }
        check.due("rose", x.seat(39, 1), 100000);
    }

    static void itAnswersAllWhoRiseTogether(Check check) {
        WaveRing x = check.made("seats 6; law up 1 rest 0 sees 1 shy 0 when 1;");
        check.due("run(1)", x.run(1), 6);
        check.due("run(1)", x.run(1), 0);
        check.due("run(5)", x.run(5), 18);
        WaveRing y = check.made("seats 6; law up 1 rest 0 sees 1 shy 0 when 1;");
        check.due("run(7)", y.run(7), 24);
        check.due("one run or more", Check.crowd(x), Check.crowd(y));
    }

    static void upGoesOnToTheUpThTenth(Check check) {
        for (int up = 1; up <= 9; up++) {
            WaveRing x = check.tried("seats 6; few 0 to 0; law up " + up + " rest 1 sees 1 shy 0 when 0;");
            for (int tenth = 1; tenth <= up; tenth++) {
                check.due("up " + up, x.seat(0, 0), tenth);
                check.due("ups", x.about(3), 1);
                x.run(1);
            }
            check.due("behind the up-th one rests", x.seat(0, 0), 11);
            check.due("ups", x.about(3), 0);
        }
    }

    static void restGoesOnToTheRestThTenth(Check check) {
        for (int rest = 0; rest <= 20; rest++) {
            WaveRing x = check.tried("seats 6; few 0 to 0; law up 1 rest " + rest + " sees 1 shy 0 when 0;");
            for (int tenth = 1; tenth <= rest; tenth++) {
                x.run(1);
                check.due("rest " + rest, x.seat(0, 0), 10 + tenth);
            }
            x.run(1);
            check.due("behind the rest-th one sits", x.seat(0, 0), 0);
            x.run(1);
            check.due("and sits on", x.seat(0, 0), 0);
        }
    }

    static void withRest0OneSitsAtOnceAndRisesATenthLater(Check check) {
        WaveRing x = check.made("seats 6; law up 2 rest 0 sees 1 shy 0 when 1;");
        String[] due = {"1", "2", "0", "1", "2", "0", "1"};
        for (String state : due) {
            x.run(1);
            check.due("states", Check.states(x), (state + " ").repeat(6).trim());
        }
    }

    static void withoutALawUp2Rest4Sees2(Check check) {
        WaveRing x = check.tried("seats 24; few 0 to 0;");
        check.due("run(1): two see it", x.run(1), 2);
        check.due("they are 1 and 2", x.seat(1, 0) * 10 + x.seat(2, 0), 11);
        int[] due = {2, 11, 12, 13, 14, 0};
        for (int state : due) {
            check.due("seat 0", x.seat(0, 0), state);
            x.run(1);
        }
        check.due("nobody is shy", x.about(7), 1);
    }

    static void dearOnesDoNotRise(Check check) {
        WaveRing x = check.made("seats 7; dear 0 to 0; dear 3 to 4; law up 1 rest 0 sees 1 shy 0 when 1;");
        check.due("run(1)", x.run(1), 4);
        check.due("states", Check.states(x), "0 1 1 0 0 1 1");
        check.due("rose", Check.answers(x, 1), "0 1 1 0 0 1 1");
    }

    static void inGapsNobodyRises(Check check) {
        WaveRing x = check.made("seats 7; gap 0 to 0; gap 6 to 6; law up 1 rest 0 sees 1 shy 0 when 1;");
        check.due("run(1)", x.run(1), 5);
        check.due("states", Check.states(x), "40 1 1 1 1 1 40");
        check.due("all are gaps", check.made("seats 7; gap 0 to 6; law up 1 rest 0 sees 1 shy 0 when 1;").run(400), 0);
    }

    static void aDearOneWhoTriedGoesOnAsOthers(Check check) {
        WaveRing x = check.tried("seats 6; few 0 to 0; dear 0 to 0; law up 2 rest 1 sees 1 shy 0 when 1;");
        int[] due = {1, 2, 11, 0, 0};
        for (int state : due) {
            check.due("seat 0", x.seat(0, 0), state);
            x.run(1);
        }
    }

    static void allAtOnce(Check check) {
        WaveRing x = check.tried("seats 8; few 0 to 0; law up 1 rest 9 sees 1 shy 0 when left>0 or right>0;");
        check.due("run(1): not one behind the other", x.run(1), 2);
        check.due("states", Check.states(x), "11 1 0 0 0 0 0 1");
    }

    /** Of n seats one sees sees on each side, or half of n - 1, cut, if that is less. */
    static void seesOrHalfOfOneLessThanAll(Check check) {
        for (int n = 6; n <= 40; n++) {
            for (int sees = 1; sees <= 9; sees++) {
                int seen = Math.min(sees, (n - 1) / 2);
                String ahead = "seats " + n + "; few 0 to 0; law up 1 rest 9 sees " + sees + " shy 0 when ";
                WaveRing x = check.tried(ahead + "left>0;");
                check.due(n + " seats, left, sees " + sees, x.run(1), seen);
                check.due("the farthest", x.seat(seen, 0), 1);
                check.due("the next", x.seat(seen + 1, 0), 0);
                x = check.tried(ahead + "right>0;");
                check.due(n + " seats, right, sees " + sees, x.run(1), seen);
                check.due("the farthest", x.seat(n - seen, 0), 1);
                check.due("the next", x.seat(n - seen - 1, 0), 0);
            }
        }
    }

    static void onSixSeatsTheOneAcrossIsNotSeen(Check check) {
        WaveRing x = check.tried("seats 6; few 0 to 0; law up 1 rest 9 sees 9 shy 0 when left+right>0;");
        check.due("run(1)", x.run(1), 4);
        check.due("states", Check.states(x), "11 1 1 0 1 1");
        x = check.tried("seats 7; few 0 to 0; law up 1 rest 9 sees 9 shy 0 when left+right>0;");
        check.due("on seven all are seen", x.run(1), 6);
        check.due("once", x.way(2), 0);
    }

    static void theLeftOf0IsTheLastOne(Check check) {
        WaveRing x = check.tried("seats 6; few 5 to 5; law up 1 rest 9 sees 1 shy 0 when left>0;");
        x.run(1);
        check.due("states", Check.states(x), "1 0 0 0 0 11");
        x = check.tried("seats 6; few 0 to 0; law up 1 rest 9 sees 1 shy 0 when right>0;");
        x.run(1);
        check.due("and the right of the last one is 0", Check.states(x), "11 0 0 0 0 1");
    }

    static void leftAndRightCountThoseSeen(Check check) {
        String ahead = "seats 12; few 10 to 11; few 0 to 0; law up 1 rest 9 sees 3 shy 0 when ";
        String[] looks = {"left", "right"};
        String[][] due = {
            {"0 0 0 0 1 1 1 1 1 1 0 0", "0 0 0 1 0 0 0 0 0 0 0 0", "0 0 1 0 0 0 0 0 0 0 0 0", "0 1 0 0 0 0 0 0 0 0 0 0"},
            {"0 1 1 1 1 1 1 0 0 0 0 0", "0 0 0 0 0 0 0 1 0 0 0 0", "0 0 0 0 0 0 0 0 1 0 0 0", "0 0 0 0 0 0 0 0 0 1 0 0"}};
        for (int side = 0; side < 2; side++) {
            for (int many = 0; many < 4; many++) {
                WaveRing x = check.tried(ahead + looks[side] + "=" + many + ";");
                x.run(1);
                String states = Check.states(x).replace("11", "0");
                check.due(looks[side] + "=" + many, states, due[side][many]);
            }
        }
    }

    static void onlyThoseUpForThe1stTenthAreSeen(Check check) {
        WaveRing x = check.tried("seats 8; few 0 to 0; law up 3 rest 1 sees 2 shy 0 when left>0 and tenth>1;");
        check.due("tenth 1", x.run(1), 0);
        check.due("up for the 2nd", x.seat(0, 0), 2);
        check.due("tenth 2: it is not seen", x.run(1), 0);
        x = check.tried("seats 8; few 0 to 0; law up 3 rest 1 sees 2 shy 0 when left>0;");
        x.run(1);
        check.due("tenth 2: by those of tenth 1, not by seat 0", x.run(1), 2);
        check.due("states", Check.states(x), "3 2 2 1 1 0 0 0");
    }

    static void gapsAreSeatsThatOneSeesAcross(Check check) {
        WaveRing x = check.tried("seats 9; few 0 to 0; gap 1 to 1; law up 1 rest 9 sees 2 shy 0 when left>0;");
        check.due("run(1): one across the gap", x.run(1), 1);
        check.due("it is 2", x.seat(2, 0), 1);
        x = check.tried("seats 9; few 0 to 0; gap 1 to 2; law up 1 rest 9 sees 2 shy 0 when left>0;");
        check.due("not across two", x.run(1), 0);
    }

    /** How many rise in each of some tenths by a law's e, with up 1 and rest 0. */
    private static void rising(Check check, String ahead, String e, int... due) {
        WaveRing x = check.made(ahead + "law up 1 rest 0 sees 1 shy 0 when " + e + ";");
        for (int i = 0; i < due.length; i++) {
            check.due("tenth " + (i + 1) + " by " + e, x.run(1), due[i]);
        }
    }

    static void theFirstTenthIs1(Check check) {
        rising(check, "seats 6;", "tenth=0", 0, 0, 0);
        rising(check, "seats 6;", "tenth=1", 6, 0, 0);
        rising(check, "seats 6;", "tenth=2", 0, 6, 0);
        WaveRing x = check.made("seats 6; law up 1 rest 0 sees 1 shy 0 when tenth=401;");
        check.due("run(400)", x.run(400), 0);
        check.due("the 401st", x.run(1), 6);
    }

    static void slackIsOfTheTenthThatBegins(Check check) {
        String ahead = "seats 6; slack 3 to 5 by 7;";
        int[] due = {0, 0, 7, 7, 7, 0, 0};
        for (int tenth = 1; tenth <= due.length; tenth++) {
            WaveRing x = check.made(ahead + "law up 1 rest 0 sees 1 shy 0 when slack=7;");
            WaveRing y = check.made(ahead + "law up 1 rest 0 sees 1 shy 0 when tenth=" + tenth
                + " and slack=" + due[tenth - 1] + ";");
            check.due("tenth " + tenth, y.run(tenth), 6);
            check.due("in two tenths", x.run(7), 12);
        }
    }

    static void slackIsOfTheFirstLineThatHoldsIt(Check check) {
        rising(check, "seats 6; slack 2 to 3 by 7; slack 3 to 5 by 8;", "slack=7", 0, 6, 0, 0, 0);
        rising(check, "seats 6; slack 2 to 3 by 7; slack 3 to 5 by 8;", "slack=8", 0, 0, 0, 6, 0, 0);
        rising(check, "seats 6; slack 3 to 5 by 8; slack 2 to 3 by 7;", "slack=8", 0, 0, 6, 0, 6, 0);
        rising(check, "seats 6; slack 1 to 1 by 0; slack 1 to 2 by 5;", "slack=5", 0, 6, 0);
        rising(check, "seats 6; slack 0 to 0 by 7; slack 2 to 999 by 3;", "slack=0", 6, 0, 0);
    }

    static void eachOfSixSlackLinesHolds(Check check) {
        StringBuilder ahead = new StringBuilder("seats 6;");
        for (int line = 1; line <= 6; line++) {
            ahead.append("slack ").append(line).append(" to ").append(line).append(" by ").append(10 - line).append(";");
        }
        for (int line = 1; line <= 6; line++) {
            WaveRing x = check.made(ahead + "law up 1 rest 0 sees 1 shy 0 when slack=" + (10 - line) + ";");
            check.due("ahead of tenth " + line, x.run(line - 1), 0);
            check.due("tenth " + line, x.run(1), 6);
            check.due("behind it", x.run(9), 0);
        }
    }

    static void withoutASlackLineSlackIs0(Check check) {
        rising(check, "seats 6;", "slack=0", 6);
        rising(check, "seats 6;", "slack", 0, 0);
    }

    static void theLastSlackTenthIs999(Check check) {
        WaveRing x = check.made("seats 6; slack 0 to 999 by 4; law up 1 rest 0 sees 1 shy 0 when slack=0;");
        x.run(400);
        x.run(400);
        check.due("up to 999", x.run(199), 0);
        check.due("the 1000th", x.run(1), 6);
        x = check.made("seats 6; slack 999 to 999 by 9; law up 1 rest 0 sees 1 shy 0 when slack=9;");
        x.run(400);
        x.run(400);
        check.due("up to 998", x.run(198), 0);
        check.due("the 999th", x.run(1), 6);
        check.due("behind it", x.run(9), 0);
    }

    static void askedIsHowManyTriesThereWere(Check check) {
        for (int tries = 0; tries < 4; tries++) {
            for (int asked = 0; asked < 4; asked++) {
                WaveRing x = check.made("seats 6; law up 1 rest 0 sees 1 shy 0 when asked=" + asked + ";");
                for (int i = 0; i < tries; i++) {
                    x.tryNow();
                }
                check.due(tries + " tries, asked=" + asked, x.run(1), asked == tries ? 6 : 0);
            }
        }
    }

    static void roseCountsRisesAndTries(Check check) {
        rising(check, "seats 6;", "rose=0", 6, 0, 0, 0);
        rising(check, "seats 6;", "rose<2", 6, 0, 6, 0, 0, 0);
        WaveRing x = check.tried("seats 6; few 1 to 1; law up 1 rest 0 sees 1 shy 0 when rose=1;");
        check.due("it is up", x.run(1), 0);
        check.due("it rose by trying", x.run(1), 1);
        check.due("rose", Check.answers(x, 1), "0 2 0 0 0 0");
    }

    static void upsIsHowManyAreUp(Check check) {
        for (int ups = 0; ups <= 6; ups++) {
            WaveRing x = check.tried("seats 9; few 0 to 3; law up 2 rest 1 sees 1 shy 0 when ups=" + ups + ";");
            check.due("four are up, ups=" + ups, x.run(1), ups == 4 ? 5 : 0);
            x = check.tried("seats 9; few 0 to 3; law up 2 rest 1 sees 1 shy 0 when tenth=2 and ups=" + ups + ";");
            check.due("in the 2nd tenth they are up still", x.run(2), ups == 4 ? 5 : 0);
            x = check.tried("seats 9; few 0 to 3; law up 2 rest 1 sees 1 shy 0 when tenth=3 and ups=" + ups + ";");
            check.due("who rests is not up", x.run(3), ups == 0 ? 5 : 0);
        }
    }

    /** Whether an e is not 0: then all six rise. */
    private static void worth(Check check, String e, boolean due) {
        check.due("by " + e, check.made("seats 6; law up 1 rest 0 sees 1 shy 0 when " + e + ";").run(1), due ? 6 : 0);
    }

    static void eIsNot0OrItIs(Check check) {
        worth(check, "0", false);
        worth(check, "1", true);
        worth(check, "9999", true);
        worth(check, "0-1", true);
        worth(check, "1-1", false);
        worth(check, "0-9999", true);
    }

    static void relationsAreAtTheirBounds(Check check) {
        worth(check, "2<3", true);
        worth(check, "3<3", false);
        worth(check, "4<3", false);
        worth(check, "2>3", false);
        worth(check, "3>3", false);
        worth(check, "4>3", true);
        worth(check, "2=3", false);
        worth(check, "3=3", true);
        worth(check, "4=3", false);
        worth(check, "0-1<0", true);
        worth(check, "0>0-1", true);
    }

    static void relationsAndOrNotAre1Or0(Check check) {
        worth(check, "(5<7)=1", true);
        worth(check, "(7<5)=0", true);
        worth(check, "(7>5)*3=3", true);
        worth(check, "(5=5)*3=3", true);
        worth(check, "(5 or 0)=1", true);
        worth(check, "(0 or 7)=1", true);
        worth(check, "(0 or 0)=0", true);
        worth(check, "(5 and 7)=1", true);
        worth(check, "(5 and 0)=0", true);
        worth(check, "(0-5 and 0-7)=1", true);
        worth(check, "(2 and 4)=1", true);
        worth(check, "(not 0)*3=3", true);
        worth(check, "(not 7)=0", true);
        worth(check, "(not 0-7)=0", true);
        worth(check, "(not not 7)=1", true);
        worth(check, "(5)=5", true);
    }

    static void notHoldsForAOneAlone(Check check) {
        worth(check, "not 3=3", false);
        worth(check, "not 3=4", true);
        worth(check, "not 0 and 0", false);
        worth(check, "not 1 or 1", true);
        worth(check, "not 0+1", false);
    }

    static void signsHoldAsTheyAreBuilt(Check check) {
        worth(check, "2+3*4=14", true);
        worth(check, "(2+3)*4=20", true);
        worth(check, "10-3-2=5", true);
        worth(check, "10-(3-2)=9", true);
        worth(check, "2-3*4=0-10", true);
        worth(check, "1 or 0 and 0", true);
        worth(check, "(1 or 0) and 0", false);
        worth(check, "0 and 0 or 1", true);
        worth(check, "1<2 and 2<1 or 3", true);
    }

    static void intsWrap(Check check) {
        worth(check, "2048*2048*511>0", true);
        worth(check, "2048*2048*512<0", true);
        worth(check, "2048*2048*512-1>0", true);
        worth(check, "2048*2048*512-1+1<0", true);
        worth(check, "2048*2048*1024=0", true);
        worth(check, "2048*2048*1024", false);
        worth(check, "0-2048*2048*512=2048*2048*512", true);
        worth(check, "2048*2048*511+(2048*2048-1)>0", true);
        worth(check, "2048*2048*511+2048*2048<0", true);
    }
}
