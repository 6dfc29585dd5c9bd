/** Promise 4: ring, which texts are a RING (the first of the terms). */
public final class Promise04TextTest {
    private static final String LAW = "law up 1 rest 0 sees 1 shy 0 when ";
    private static final int AT = LAW.length();
    private static final String SIGNS = ";()<>=+-*";

    public static void main(String[] args) throws ReflectiveOperationException {
        Check.runTests(Promise04TextTest.class);
    }

    static void eachOf256BytesIsABlankOrATokenOrNone(Check check) {
        for (char b = 0; b < 256; b++) {
            boolean blank = b == 32 || b == 10;
            boolean token = b >= 'a' && b <= 'z' || b >= '0' && b <= '9' || SIGNS.indexOf(b) >= 0;
            if (blank) {
                check.stands(String.valueOf(b), 24);
            } else {
                check.faulty(String.valueOf(b), token ? 2 : 1, 0);
            }
        }
    }

    static void wordsHave8LettersAtMost(Check check) {
        check.faulty("abcdefg", 2, 0);
        check.faulty("abcdefgh", 2, 0);
        check.faulty("abcdefghi", 1, 0);
        check.faulty(" zzzzzzzz 1", 2, 1);
        check.faulty(" zzzzzzzzz 1", 1, 1);
        check.faulty("seatseats 6;", 1, 0);
        check.faulty("z".repeat(800), 1, 0);
    }

    static void lettersAreSmallOnes(Check check) {
        check.faulty("Seats 6;", 1, 0);
        check.faulty("seatS 6;", 2, 0);
        check.faulty("dear 0 tO 1;", 2, 7);
        check.faulty("dear 0 to 1;A", 1, 12);
    }

    static void anNHas4DigitsAtMost(Check check) {
        check.stands(LAW + "0;", 24);
        check.stands(LAW + "999;", 24);
        check.stands(LAW + "9999;", 24);
        check.stands(LAW + "0000;", 24);
        check.faulty(LAW + "10000;", 1, AT);
        check.faulty(LAW + "00000;", 1, AT);
        check.stands("seats 0006;", 6);
        check.faulty("seats 00006;", 1, 6);
        check.faulty("seats " + "9".repeat(794), 1, 6);
    }

    static void noLetterIsDirectlyBehindAnN(Check check) {
        check.faulty("seats 6a;", 1, 6);
        check.faulty("seats 6z;", 1, 6);
        check.faulty("dear 0to 1;", 1, 5);
        check.stands("dear 0 to 1;", 24);
        check.stands("dear 0\nto 1;", 24);
        check.faulty("law up 1rest 0", 1, 7);
        check.faulty(LAW + "1or 1;", 1, AT);
        check.stands(LAW + "1 or 1;", 24);
        check.stands(LAW + "(1)or 1;", 24);
        check.faulty("seats 6", 2, 7);
    }

    static void aDigitMayBeDirectlyBehindAWord(Check check) {
        check.stands("seats6;dear0 to5;gap1 to1;few2 to2;", 6);
        check.stands("slack1 to2 by3;", 24);
        check.stands("law up1 rest0 sees1 shy0 when1;", 24);
    }

    static void blanksPartTokensOrNot(Check check) {
        check.stands("\n seats \n 7 \n ; \n ", 7);
        check.stands(LAW + "not(left<1)and(2+3)*4>0-1;", 24);
        check.stands(LAW + "not ( left < 1 ) and ( 2 + 3 ) * 4 > 0 - 1 ;", 24);
        check.faulty("se ats 7;", 2, 0);
        check.faulty("seats 1 2;", 4, 6);
        check.faulty("seats 12 3;", 2, 9);
        check.faulty("seats\t7;", 1, 5);
        check.faulty("seats\r7;", 1, 5);
    }

    static void eachIsAsLongAsCanBe(Check check) {
        check.stands("seats 40;", 40);
        check.faulty("seats 4 0;", 4, 6);
        check.faulty("seatsx 6;", 2, 0);
        check.faulty("seat 6;", 2, 0);
        check.faulty(LAW + "notleft;", 2, AT);
        check.stands(LAW + "not left;", 24);
        check.faulty(LAW + "1 andleft;", 2, AT + 2);
        check.faulty(LAW + "1 orleft;", 2, AT + 2);
        check.faulty(LAW + "1 and notups;", 2, AT + 6);
    }

    static void otherWordsCantStand(Check check) {
        String[] words = {"teats", "seatz", "gaps", "fews", "laws", "slacks", "dea", "e", "name", "left", "to", "when", "not"};
        for (String word : words) {
            check.faulty(word + " 6;", 2, 0);
        }
        String[] others = {"up", "seats", "dear", "few", "gap", "law", "to", "by", "or", "and", "up1", "lefts", "tenths"};
        for (String word : others) {
            check.faulty(LAW + word + ";", 2, AT);
        }
        String[] looks = {"left", "right", "slack", "asked", "rose", "ups", "tenth"};
        for (String word : looks) {
            check.stands(LAW + word + ";", 24);
        }
    }

    static void seatsAre6To40(Check check) {
        check.faulty("seats 0;", 4, 6);
        check.faulty("seats 5;", 4, 6);
        check.stands("seats 6;", 6);
        check.stands("seats 7;", 7);
        check.stands("seats 39;", 39);
        check.stands("seats 40;", 40);
        check.faulty("seats 41;", 4, 6);
        check.faulty("seats 9999;", 4, 6);
    }

    static void seatsAreToldOnce(Check check) {
        check.faulty("seats 6;seats 7;", 2, 8);
        check.faulty("seats 6; seats 6;", 2, 9);
        check.faulty("seats 6; slack 0 to 0 by 0; seats 99;", 2, 28);
        check.faulty("seats 24; " + LAW + "1; seats", 2, 10 + AT + 3);
    }

    static void seatsAreToldAheadOfAllDearGapFewLines(Check check) {
        String[] words = {"dear", "gap", "few"};
        for (String word : words) {
            String line = word + " 0 to 0;";
            check.stands("seats 7;" + line, 7);
            check.faulty(line + "seats 7;", 2, line.length());
            check.faulty(line + "seats 24;", 2, line.length());
            check.faulty(line + "seats 41;", 2, line.length());
        }
        check.stands("slack 0 to 0 by 0; seats 7;", 7);
        check.stands(LAW + "1; seats 7; few 6 to 6;", 7);
    }

    static void seatsAre24IfNotToldAhead(Check check) {
        String[] words = {"dear", "gap", "few"};
        for (String word : words) {
            check.stands(word + " 23 to 23;", 24);
            check.faulty(word + " 24 to 24;", 4, word.length() + 1);
            check.faulty(word + " 23 to 24;", 4, word.length() + 7);
        }
    }

    static void dearGapFewAreSeatsBelowThat(Check check) {
        String[] words = {"dear", "gap", "few"};
        int[] all = {6, 10, 40};
        for (String word : words) {
            for (int seats : all) {
                String ahead = "seats " + seats + ";" + word + " ";
                int last = seats - 1;
                check.stands(ahead + "0 to 0;", seats);
                check.stands(ahead + "0 to " + last + ";", seats);
                check.stands(ahead + last + " to " + last + ";", seats);
                check.faulty(ahead + seats + " to " + seats + ";", 4, ahead.length());
                check.faulty(ahead + "0 to " + seats + ";", 4, ahead.length() + 5);
                check.faulty(ahead + "0 to 9999;", 4, ahead.length() + 5);
            }
        }
    }

    static void theSecondIsNotBelowTheFirst(Check check) {
        String[] words = {"dear", "gap", "few"};
        for (String word : words) {
            check.stands(word + " 9 to 10;", 24);
            check.stands(word + " 9 to 9;", 24);
            check.faulty(word + " 9 to 8;", 4, word.length() + 6);
            check.faulty(word + " 9 to 0;", 4, word.length() + 6);
        }
    }

    static void fromTheFirstToTheSecondTheyAreAllMeant(Check check) {
        WaveRing x = check.made("seats 9; dear 0 to 0; dear 3 to 5; dear 8 to 8; few 1 to 2; few 8 to 8; gap 6 to 7;");
        check.due("dear and gaps", Check.answers(x, 2), "1 0 0 1 1 1 2 2 1");
        check.due("few", Check.answers(x, 3), "0 1 1 0 0 0 0 0 1");
        x = check.made("seats 40; dear 0 to 39; few 39 to 39;");
        check.due("dear", Check.answers(x, 2), ("1 ".repeat(40)).trim());
        check.due("few", Check.answers(x, 3), "0 ".repeat(39) + "1");
    }

    static void anyNumberOfSuchLines(Check check) {
        StringBuilder text = new StringBuilder("seats 40;");
        String[] words = {"few", "gap", "dear"};
        for (int i = 0; i < 75; i++) {
            text.append(words[i % 3]).append("0 to0;");
        }
        check.stands(text.toString(), 40);
        check.stands("gap 0 to 0;".repeat(72), 24);
        check.due("that is nearly all of the tape", "gap 0 to 0;".repeat(72).length(), 792);
    }

    static void aGapIsNotDearInEitherOrder(Check check) {
        check.due("dear ahead", Check.answers(check.made("seats 6; dear 0 to 1; gap 1 to 2;"), 2), "1 2 2 0 0 0");
        check.due("gap ahead", Check.answers(check.made("seats 6; gap 1 to 2; dear 0 to 1;"), 2), "1 2 2 0 0 0");
    }

    static void atMost6SlackLines(Check check) {
        String line = "slack 1 to 1 by 1;";
        check.stands(line.repeat(5), 24);
        check.stands(line.repeat(6), 24);
        check.faulty(line.repeat(7), 2, 6 * line.length());
        check.faulty(line.repeat(6) + "slack", 2, 6 * line.length());
        check.faulty(line.repeat(6) + "seats 8; " + line, 2, 6 * line.length() + 9);
    }

    static void slackTenthsAre0To999(Check check) {
        check.stands("slack 0 to 0 by 0;", 24);
        check.stands("slack 0 to 999 by 0;", 24);
        check.stands("slack 999 to 999 by 0;", 24);
        check.faulty("slack 1000 to 1000 by 0;", 4, 6);
        check.faulty("slack 999 to 1000 by 0;", 4, 13);
    }

    static void slackSecondIsNotBelowTheFirst(Check check) {
        check.stands("slack 5 to 6 by 0;", 24);
        check.stands("slack 5 to 5 by 0;", 24);
        check.faulty("slack 5 to 4 by 0;", 4, 11);
        check.faulty("slack 999 to 998 by 0;", 4, 13);
    }

    static void slackIsBy0To9(Check check) {
        check.stands("slack 0 to 0 by 0;", 24);
        check.stands("slack 0 to 0 by 9;", 24);
        check.faulty("slack 0 to 0 by 10;", 4, 16);
    }

    static void theLawIsToldOnce(Check check) {
        check.stands(LAW + "1;", 24);
        check.faulty(LAW + "1;" + LAW + "1;", 2, AT + 2);
        check.faulty(LAW + "1; seats 8; law up 99", 2, AT + 12);
    }

    static void upIs1To9(Check check) {
        check.faulty("law up 0 rest 0 sees 1 shy 0 when 1;", 4, 7);
        check.stands("law up 1 rest 0 sees 1 shy 0 when 1;", 24);
        check.stands("law up 9 rest 0 sees 1 shy 0 when 1;", 24);
        check.faulty("law up 10 rest 0 sees 1 shy 0 when 1;", 4, 7);
    }

    static void restIs0To20(Check check) {
        check.stands("law up 1 rest 0 sees 1 shy 0 when 1;", 24);
        check.stands("law up 1 rest 20 sees 1 shy 0 when 1;", 24);
        check.faulty("law up 1 rest 21 sees 1 shy 0 when 1;", 4, 14);
    }

    static void seesIs1To9(Check check) {
        check.faulty("law up 1 rest 0 sees 0 shy 0 when 1;", 4, 21);
        check.stands("law up 1 rest 0 sees 1 shy 0 when 1;", 24);
        check.stands("law up 1 rest 0 sees 9 shy 0 when 1;", 24);
        check.stands("seats 6; law up 1 rest 0 sees 9 shy 0 when 1;", 6);
        check.faulty("law up 1 rest 0 sees 10 shy 0 when 1;", 4, 21);
    }

    static void shyIs0To9(Check check) {
        check.stands("law up 1 rest 0 sees 1 shy 0 when 1;", 24);
        check.stands("law up 1 rest 0 sees 1 shy 9 when 1;", 24);
        check.faulty("law up 1 rest 0 sees 1 shy 10 when 1;", 4, 27);
    }

    static void thirtyUnitsInAll(Check check) {
        String[] joins = {"*1", "+1", "-1", " or 1", " and 1", " or not 1", " and 1=1"};
        int[] units = {1, 1, 1, 1, 1, 1, 2};
        for (int i = 0; i < joins.length; i++) {
            int most = 29 / units[i];
            check.stands(LAW + "1" + joins[i].repeat(most) + ";", 24);
            String more = LAW + "1" + joins[i].repeat(30);
            // The 31st unit is the last sign of its join.
            int end = AT + 1 + joins[i].length() * (30 / units[i]) - 1;
            check.faulty(more + ";", 2, end);
        }
    }

    static void aUnitInBracketsIsAUnitToo(Check check) {
        String ones = "1" + "*1".repeat(27);
        check.stands(LAW + ones + "*(1);", 24);
        check.faulty(LAW + ones + "*(1*1);", 2, AT + ones.length() + 4);
        check.faulty(LAW + ones + "*1*(1);", 2, AT + ones.length() + 4);
        check.faulty(LAW + ones + "*1*1*(1);", 2, AT + ones.length() + 5);
        check.due("about(8)", check.made(LAW + ones + "*(1);").about(8), 30);
    }

    static void within6OthersAtMost(Check check) {
        check.stands(LAW + "(".repeat(6) + "1" + ")".repeat(6) + ";", 24);
        check.stands(LAW + "(".repeat(7) + "1" + ")".repeat(7) + ";", 24);
        check.faulty(LAW + "(".repeat(8) + "1" + ")".repeat(8) + ";", 2, AT + 7);
        check.stands(LAW + "not ".repeat(6) + "1;", 24);
        check.stands(LAW + "not ".repeat(7) + "1;", 24);
        check.faulty(LAW + "not ".repeat(8) + "1;", 2, AT + 28);
    }

    static void bracketsAndNotsAreCountedTogether(Check check) {
        check.stands(LAW + "not(not(not(not 1)));", 24);
        check.faulty(LAW + "not(not(not(not(1))));", 2, AT + 15);
        check.faulty(LAW + "not(not(not(not not 1)));", 2, AT + 16);
        check.stands(LAW + "(not(not(not(1))));", 24);
        check.faulty(LAW + "(not(not(not(not 1))));", 2, AT + 13);
        check.faulty(LAW + "(not(not(not((1)))));", 2, AT + 13);
    }

    static void whatIsClosedIsNotCountedFurther(Check check) {
        String seven = "(".repeat(7) + "1" + ")".repeat(7);
        check.stands(LAW + seven + "+" + seven + "+" + seven + ";", 24);
        check.stands(LAW + "not not not not not not not 1 or (1) and not(1);", 24);
        check.faulty(LAW + seven + "+(" + seven + ");", 2, AT + 15 + 1 + 7);
        check.faulty(LAW + "not ".repeat(7) + "1+1>0*(1);", 2, AT + 28 + 6);
    }

    static void manyNotsFitInto30Units(Check check) {
        StringBuilder nots = new StringBuilder(LAW);
        for (int i = 0; i < 22; i++) {
            nots.append("not not not not not not not 1 or ");
        }
        check.due("154 nots, each seven of them 0", check.made(nots + "0;").would(), 0);
        check.due("and a not 0", check.made(nots + "not 0;").would(), 24);
    }

    static void oneRelationAtMostInAOne(Check check) {
        String[] relations = {"<", ">", "="};
        for (String relation : relations) {
            check.stands(LAW + "1" + relation + "2;", 24);
            check.faulty(LAW + "1" + relation + "2" + relation + "3;", 2, AT + 3);
            check.stands(LAW + "(1" + relation + "2)" + relation + "3;", 24);
        }
        check.faulty(LAW + "1<=2;", 2, AT + 2);
        check.stands(LAW + "1<2 and 2<3;", 24);
    }

    static void notStandsAheadOfAOneAlone(Check check) {
        check.stands(LAW + "not not 1<2;", 24);
        check.faulty(LAW + "1+not 1;", 2, AT + 2);
        check.faulty(LAW + "1*not 1;", 2, AT + 2);
        check.faulty(LAW + "1<not 1;", 2, AT + 2);
        check.stands(LAW + "1<(not 1);", 24);
        check.faulty(LAW + "-1;", 2, AT);
        check.faulty(LAW + "1+-1;", 2, AT + 2);
    }
}
