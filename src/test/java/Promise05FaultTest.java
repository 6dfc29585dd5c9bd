/** Promise 5: fault, and where in a text it is (the last of the first term). */
public final class Promise05FaultTest {
    private static final String LAW = "law up 1 rest 0 sees 1 shy 0 when ";
    private static final int AT = LAW.length();

    public static void main(String[] args) throws ReflectiveOperationException {
        Check.runTests(Promise05FaultTest.class);
    }

    static void withoutARingItIs0AtNone(Check check) {
        WaveRing x = new WaveRing();
        Check.fed(x, "$");
        check.due("fault(0)", x.fault(0), 0);
        check.due("fault(1)", x.fault(1), -1);
    }

    static void itIsOfTheLatestRing(Check check) {
        WaveRing x = new WaveRing();
        Check.tell(x, "seats 5;");
        check.due("fault(0)", x.fault(0), 4);
        check.due("fault(1)", x.fault(1), 6);
        Check.fed(x, "$");
        check.due("fault(0) behind feed alone", x.fault(0), 4);
        x.ring();
        check.due("fault(0)", x.fault(0), 1);
        check.due("fault(1)", x.fault(1), 0);
        Check.tell(x, "seats");
        check.due("fault(0)", x.fault(0), 2);
        check.due("fault(1)", x.fault(1), 5);
        x.ring();
        check.due("fault(0) without a fault", x.fault(0), 0);
        check.due("fault(1) without a fault", x.fault(1), -1);
    }

    static void noneForAnotherWhat(Check check) {
        WaveRing x = new WaveRing();
        int[] others = {-1, 2, 3, 4, Check.LEAST, Check.GREATEST};
        for (int round = 0; round < 2; round++) {
            for (int what : others) {
                check.due("fault(" + what + ")", x.fault(what), -1);
            }
            Check.tell(x, " $");
            check.due("fault(1)", x.fault(1), 1);
        }
    }

    static void placesAreBytesFrom0(Check check) {
        check.faulty("$", 1, 0);
        check.faulty(" $", 1, 1);
        check.faulty("\n\n$", 1, 2);
        check.faulty("seats 6;$", 1, 8);
        check.faulty(" ".repeat(799) + ";", 2, 799);
        check.faulty(" ".repeat(799) + "$", 1, 799);
    }

    static void theEndIsTheTextsLength(Check check) {
        check.faulty("seats", 2, 5);
        check.faulty("seats ", 2, 6);
        check.faulty("seats \n\n", 2, 8);
        check.faulty("seats 6", 2, 7);
        check.faulty("seats 6 ", 2, 8);
        check.faulty(LAW, 2, AT);
        check.faulty(LAW + "1", 2, AT + 1);
        check.faulty(LAW + "(1", 2, AT + 2);
        check.faulty(" ".repeat(793) + "seats 6", 2, 800);
        check.faulty("seats 6" + " ".repeat(793), 2, 800);
    }

    static void theFirstByItsPlace(Check check) {
        check.faulty("seats 5; $", 4, 6);
        check.faulty("seats $; seats 5;", 1, 6);
        check.faulty("seats ; seats 5; $", 2, 6);
        check.faulty("dear 0 to 24; gap 0;", 4, 10);
        check.faulty("dear 24 to 99;", 4, 5);
        check.faulty("law up 0 rest 99 $", 4, 7);
        check.faulty(LAW + "1 1 $;", 2, AT + 2);
    }

    static void atOnePlaceTheLeast(Check check) {
        String thirty = "1" + "*1".repeat(29);
        check.faulty(LAW + thirty + "*1;", 2, AT + 60);
        check.faulty(LAW + thirty + "*$;", 1, AT + 60);
        check.faulty(LAW + thirty + "*12345;", 1, AT + 60);
        check.faulty(LAW + "(".repeat(7) + "$", 1, AT + 7);
        check.faulty("seats 99999;", 1, 6);
        check.faulty("seats $;", 1, 6);
        check.faulty("$ 6;", 1, 0);
        check.faulty("dear 0 to 1; seatseats 6;", 1, 13);
    }

    static void aWordThatIsNoTokenIsAtItsFirstByte(Check check) {
        check.faulty("seats 6; abcdefghi", 1, 9);
        check.faulty("dear abcdefghi", 1, 5);
        check.faulty("dear 0 toooooooo 1;", 1, 7);
    }

    static void anNThatIsNoTokenIsAtItsFirstByte(Check check) {
        check.faulty("dear 12345 to 1;", 1, 5);
        check.faulty("dear 0 to 1to;", 1, 10);
        check.faulty(LAW + "left>1and 1;", 1, AT + 5);
    }

    static void seatsTooLateOrTwiceIsAtTheLinesFirstWord(Check check) {
        check.faulty("seats 6; seats 7;", 2, 9);
        check.faulty("seats 6; seats $", 2, 9);
        check.faulty("seats 6; seats 99", 2, 9);
        check.faulty("dear 0 to 0; seats 99", 2, 13);
        check.faulty("gap 0 to 0; seats $", 2, 12);
        check.faulty("few 0 to 0; seats", 2, 12);
    }

    static void aSeventhSlackLineIsAtTheLinesFirstWord(Check check) {
        String six = "slack 0 to 0 by 0;".repeat(6);
        check.faulty(six + " slack 0 to 0 by 0;", 2, 109);
        check.faulty(six + " slack 9999", 2, 109);
        check.faulty(six + " slack $", 2, 109);
    }

    static void aSecondLawIsAtTheLinesFirstWord(Check check) {
        check.faulty(LAW + "1; " + LAW + "1;", 2, AT + 3);
        check.faulty(LAW + "1; law up 0", 2, AT + 3);
        check.faulty(LAW + "1; law $", 2, AT + 3);
    }

    static void a31stUnitIsAtItsFirstToken(Check check) {
        String thirty = "1" + "*1".repeat(29);
        String[] units = {"9999", "left", "tenth", "(1)", "(", "((((("};
        for (String unit : units) {
            check.faulty(LAW + thirty + "* " + unit + ";", 2, AT + 61);
            check.faulty(LAW + thirty + " and not " + unit + ";", 2, AT + 68);
        }
        // 28 units and three brackets within one another: the third is the 31st.
        check.faulty(LAW + "1" + "*1".repeat(27) + "*(((1)));", 2, AT + 55 + 3);
    }

    static void whatIsWithin7OthersIsAtItsFirstTokenOrTheNot(Check check) {
        check.faulty(LAW + "(".repeat(7) + " (1", 2, AT + 8);
        check.faulty(LAW + "(".repeat(7) + "2+(1", 2, AT + 9);
        check.faulty(LAW + "(".repeat(7) + "not 1", 2, AT + 7);
        check.faulty(LAW + "(".repeat(7) + "1 or not 1", 2, AT + 12);
        check.faulty(LAW + "not ".repeat(7) + "not (", 2, AT + 28);
        check.faulty(LAW + "not ".repeat(7) + "(", 2, AT + 28);
        check.faulty(LAW + "not ".repeat(7) + "1+(", 2, AT + 30);
    }

    static void aNumberThatCantBeIsAtItsFirstByte(Check check) {
        check.faulty("seats   0041;", 4, 8);
        check.faulty("few 0 to  024;", 4, 10);
        check.faulty("slack 7 to\n6", 4, 11);
        check.faulty("slack 7 to 7 by 0010", 4, 16);
        check.faulty("law up 1 rest 1 sees 1 shy 99", 4, 27);
    }

    /** Each line, cut ahead of each of its tokens, and with a wrong one there. */
    static void eachTokenOfEachLineIsLookedAt(Check check) {
        String[] lines = {"seats 6 ;", "dear 0 to 1 ;", "gap 0 to 1 ;", "few 0 to 1 ;", "slack 0 to 1 by 2 ;",
            "law up 1 rest 2 sees 3 shy 4 when 5 ;", "law up 1 rest 2 sees 3 shy 4 when ( left ) ;",
            "law up 1 rest 2 sees 3 shy 4 when not right * 2 < 3 + 4 and 1 or 7 ;"};
        for (String line : lines) {
            String[] tokens = line.split(" ");
            String ahead = "";
            for (int i = 0; i < tokens.length; i++) {
                int place = ahead.length();
                if (i > 0) {
                    check.faulty(ahead, 2, place);
                    check.faulty(ahead + "seats 6;", 2, place);
                }
                check.faulty(ahead + "zz", 2, place);
                check.faulty(ahead + "$", 1, place);
                check.faulty(ahead + ")", 2, tokens[i].equals(")") ? place + 1 : place);
                ahead += tokens[i] + " ";
            }
            check.faulty(ahead, 0, -1);
        }
    }

    static void eitherIsBothIsOneIsSumIsTermIsUnit(Check check) {
        check.faulty(LAW + ";", 2, AT);
        check.faulty(LAW + "();", 2, AT + 1);
        check.faulty(LAW + "(1;", 2, AT + 2);
        check.faulty(LAW + "1);", 2, AT + 1);
        check.faulty(LAW + "1 or;", 2, AT + 4);
        check.faulty(LAW + "1 or or 1;", 2, AT + 5);
        check.faulty(LAW + "1 and or 1;", 2, AT + 6);
        check.faulty(LAW + "and 1;", 2, AT);
        check.faulty(LAW + "not;", 2, AT + 3);
        check.faulty(LAW + "1<;", 2, AT + 2);
        check.faulty(LAW + "1+;", 2, AT + 2);
        check.faulty(LAW + "1**1;", 2, AT + 2);
        check.faulty(LAW + "1 2;", 2, AT + 2);
        check.faulty(LAW + "left right;", 2, AT + 5);
        check.faulty(LAW + "1(2);", 2, AT + 1);
        check.faulty(LAW + "(1)2;", 2, AT + 3);
        check.faulty(LAW + "1 not 2;", 2, AT + 2);
    }
}
