/** A plain law worked out seat by seat, for the tests of promises 24 to 27. */
final class PlainLaw {
    static final int LAWS = 324;

    private PlainLaw() {
    }

    static int number(int side, int sees, int need, int up, int rest) {
        return (((side * 3 + sees - 1) * 3 + need - 1) * 3 + up - 1) * 4 + rest;
    }

    /** Who is up in moment 0, 1, .. by a law from a start on; a row of seats tells ., d (dear) or g (a gap). */
    static long[] shown(int law, String row, long start, int moments) {
        int rest = law % 4;
        int up = law / 4 % 3 + 1;
        int need = law / 12 % 3 + 1;
        int sees = Math.min(law / 36 % 3 + 1, (row.length() - 1) / 2);
        int side = law / 108;
        int[] ages = new int[row.length()];
        for (int seat = 0; seat < ages.length; seat++) {
            ages[seat] = row.charAt(seat) != 'g' && (start >> seat & 1) == 1 ? 1 : 0;
        }
        long[] films = new long[moments];
        for (int moment = 0; moment < moments; moment++) {
            for (int seat = 0; seat < ages.length; seat++) {
                films[moment] |= ages[seat] >= 1 && ages[seat] <= up ? 1L << seat : 0;
            }
            int[] next = new int[ages.length];
            for (int seat = 0; seat < ages.length; seat++) {
                if (ages[seat] > 0) {
                    next[seat] = ages[seat] < up + rest ? ages[seat] + 1 : 0;
                } else if (row.charAt(seat) == '.' && seen(ages, seat, sees, side) >= need) {
                    next[seat] = 1;
                }
            }
            ages = next;
        }
        return films;
    }

    private static int seen(int[] ages, int seat, int sees, int side) {
        int many = 0;
        for (int far = 1; far <= sees; far++) {
            many += side != 1 && ages[Math.floorMod(seat - far, ages.length)] == 1 ? 1 : 0;
            many += side != 0 && ages[(seat + far) % ages.length] == 1 ? 1 : 0;
        }
        return many;
    }

    /** The text of a ring with such a row. */
    static String text(String row) {
        StringBuilder text = new StringBuilder("seats " + row.length() + ";");
        for (int seat = 0; seat < row.length(); seat++) {
            if (row.charAt(seat) != '.') {
                text.append(row.charAt(seat) == 'd' ? "dear " : "gap ").append(seat).append(" to ").append(seat).append(";");
            }
        }
        return text.toString();
    }

    /** Whether a law is among those that fit as known at k. */
    static boolean fits(WaveRing x, int law, int k) {
        for (int i = 0; i < LAWS; i++) {
            int found = x.fit(i, k);
            if (found == law) {
                return true;
            }
            if (found == -1 || found > law) {
                return false;
            }
        }
        return false;
    }
}
