import java.math.BigInteger;

/** Promise 20: odds. */
public final class Promise20OddsTest {
    public static void main(String[] args) throws ReflectiveOperationException {
        Check.runTests(Promise20OddsTest.class);
    }

    /** A ring on which so many might rise. */
    private static WaveRing might(Check check, int many, int shy) {
        return check.made("seats 20; gap " + many + " to 19; law up 1 rest 0 sees 1 shy " + shy + " when 1;");
    }

    private static void oddsAre(Check check, WaveRing x, int m, long upper, long lower) {
        check.due("upper of " + m, x.odds(m, 0), upper);
        check.due("lower of " + m, x.odds(m, 1), lower);
    }

    static void mIs0To40(Check check) {
        WaveRing x = might(check, 5, 3);
        int[] others = {-1, 41, 42, Check.LEAST, Check.GREATEST};
        for (int m : others) {
            oddsAre(check, x, m, -1, -1);
        }
        oddsAre(check, x, 0, 1, 1);
        oddsAre(check, x, 40, 0, 1);
        oddsAre(check, x, 39, 0, 1);
    }

    static void partIs0Or1(Check check) {
        WaveRing x = might(check, 5, 3);
        int[] others = {-1, 2, 3, Check.LEAST, Check.GREATEST};
        for (int part : others) {
            check.due("odds(1, " + part + ")", x.odds(1, part), -1);
        }
    }

    static void spentIfMoreThan15Might(Check check) {
        for (int shy = 0; shy <= 9; shy += 3) {
            WaveRing x = might(check, 15, shy);
            oddsAre(check, x, 0, 1, 1);
            oddsAre(check, x, 16, 0, 1);
            x = might(check, 16, shy);
            oddsAre(check, x, 0, -2, -2);
            oddsAre(check, x, 1, -2, -2);
            oddsAre(check, x, 40, -2, -2);
        }
        WaveRing x = check.made("seats 40; law up 1 rest 0 sees 1 shy 5 when 1;");
        oddsAre(check, x, 3, -2, -2);
    }

    static void whatCantBeIsNoneThoughItIsSpent(Check check) {
        WaveRing x = might(check, 16, 5);
        oddsAre(check, x, -1, -1, -1);
        oddsAre(check, x, 41, -1, -1);
        check.due("odds(1, 2)", x.odds(1, 2), -1);
        check.due("odds(1, -1)", x.odds(1, -1), -1);
    }

    static void onlyThoseWhoMightAreCounted(Check check) {
        WaveRing x = check.tried("seats 40; few 0 to 0; law up 1 rest 3 sees 7 shy 5 when left+right>0;");
        check.due("fourteen of 40", x.odds(14, 1), 1L << 14);
        x = check.made("seats 40; dear 15 to 39; law up 1 rest 3 sees 7 shy 5 when 1;");
        check.due("fifteen are not dear", x.odds(15, 1), 1L << 15);
        x = check.tried("seats 40; few 15 to 39; law up 1 rest 3 sees 7 shy 5 when 1;");
        check.due("fifteen sit", x.odds(15, 1), 1L << 15);
        x = check.tried("seats 40; few 16 to 39; law up 1 rest 3 sees 7 shy 5 when 1;");
        check.due("sixteen sit", x.odds(15, 1), -2);
    }

    static void nobodyMight(Check check) {
        WaveRing x = check.made("seats 6; law up 1 rest 0 sees 1 shy 4 when 0;");
        oddsAre(check, x, 0, 1, 1);
        oddsAre(check, x, 1, 0, 1);
    }

    static void nobodyIsShy(Check check) {
        WaveRing x = might(check, 15, 0);
        oddsAre(check, x, 14, 1, 1);
        oddsAre(check, x, 15, 1, 1);
        oddsAre(check, x, 16, 0, 1);
    }

    static void theLargestFractions(Check check) {
        WaveRing x = might(check, 15, 3);
        oddsAre(check, x, 15, 4747561509943L, 1000000000000000L);
        oddsAre(check, x, 1, 1000000000000000L - 14348907L, 1000000000000000L);
        x = might(check, 15, 9);
        oddsAre(check, x, 15, 1, 1000000000000000L);
    }

    /** Each m and each shy against the sum of its cases, brought to lowest terms. */
    static void inLowestTerms(Check check) {
        int[] many = {1, 2, 3, 7, 14, 15};
        for (int n : many) {
            for (int shy = 0; shy <= 9; shy++) {
                WaveRing x = might(check, n, shy);
                for (int m = 0; m <= n + 1; m++) {
                    BigInteger upper = BigInteger.ZERO;
                    for (int i = m; i <= n; i++) {
                        upper = upper.add(cases(n, i).multiply(BigInteger.valueOf(10 - shy).pow(i))
                            .multiply(BigInteger.valueOf(shy).pow(n - i)));
                    }
                    BigInteger lower = BigInteger.TEN.pow(n);
                    BigInteger common = upper.gcd(lower);
                    oddsAre(check, x, m, upper.divide(common).longValueExact(), lower.divide(common).longValueExact());
                }
            }
        }
    }

    private static BigInteger cases(int n, int i) {
        BigInteger many = BigInteger.ONE;
        for (int j = 0; j < i; j++) {
            many = many.multiply(BigInteger.valueOf(n - j)).divide(BigInteger.valueOf(j + 1));
        }
        return many;
    }

    static void allStaysAsItWas(Check check) {
        WaveRing x = check.tried("seats 8; few 0 to 1; law up 2 rest 2 sees 2 shy 3 when left>0 or right>1;");
        String before = Check.everything(x);
        x.odds(1, 0);
        check.due("all, w too", Check.everything(x), before);
    }
}
