import java.util.Random;

/** Makes texts of rings by chance. */
final class RingText {
    private static final String[] LOOKS = {"left", "right", "slack", "asked", "rose", "ups", "tenth"};
    private static final String[] PIECES = {"seats", "dear", "gap", "few", "slack", "law", "up", "rest", "sees", "shy",
        "when", "to", "by", "not", "and", "or", "left", "(", ")", "<", ">", "=", "+", "-", "*", ";", "0", "7", "12345", "99",
        "$", "A", "\n", " ", "verylongword", "x", "\u00ff"};
    private final Random random;
    private final StringBuilder text = new StringBuilder();
    private int seats = 24;

    RingText(Random random) {
        this.random = random;
    }

    private int pick(int bound) {
        return random.nextInt(bound);
    }

    String made(boolean faulty) {
        if (pick(3) == 0) {
            slack();
        }
        if (pick(4) > 0) {
            seats = pick(3) == 0 ? 6 + pick(35) : 6 + pick(8);
            text.append("seats ").append(seats).append(";");
        }
        int lines = pick(5);
        for (int i = 0; i < lines; i++) {
            switch (pick(6)) {
                case 0 -> places("dear", 2);
                case 1 -> places("gap", 2);
                case 2 -> slack();
                default -> places("few", 4);
            }
        }
        if (pick(8) > 0) {
            law();
        }
        if (pick(3) > 0) {
            places("few", 3);
        }
        if (faulty) {
            int times = 1 + pick(2);
            for (int i = 0; i < times; i++) {
                spoil();
            }
        }
        return text.length() > 800 ? text.substring(0, 800) : text.toString();
    }

    private void spoil() {
        int at = pick(text.length() + 1);
        int end = Math.min(text.length(), at + pick(4));
        switch (pick(4)) {
            case 0 -> text.delete(at, end);
            case 1 -> text.insert(at, PIECES[pick(PIECES.length)]);
            case 2 -> text.replace(at, end, PIECES[pick(PIECES.length)]);
            default -> text.setLength(at);
        }
    }

    private void places(String word, int width) {
        int from = pick(seats);
        int to = Math.min(seats - 1, from + pick(width));
        text.append(pick(2) == 0 ? "\n" : " ").append(word).append(' ').append(from).append(" to ").append(to).append(" ;");
    }

    private void slack() {
        int from = pick(12);
        text.append("slack ").append(from).append(" to ").append(from + pick(30)).append(" by ").append(pick(4)).append(";");
    }

    private void law() {
        text.append("law up ").append(1 + pick(pick(4) == 0 ? 9 : 2));
        text.append(" rest ").append(pick(pick(4) == 0 ? 21 : 4));
        text.append(" sees ").append(1 + pick(pick(3) == 0 ? 9 : 3));
        text.append(" shy ").append(pick(2) == 0 ? 0 : pick(10)).append(" when ");
        switch (pick(4)) {
            case 0 -> text.append("left+right>").append(pick(2));
            case 1 -> text.append(pick(2) == 0 ? "left" : "right").append(">").append(pick(2));
            default -> either(3);
        }
        text.append(";");
    }

    private void either(int depth) {
        both(depth);
        while (pick(4) == 0) {
            text.append(" or ");
            both(depth);
        }
    }

    private void both(int depth) {
        one(depth);
        while (pick(4) == 0) {
            text.append(" and ");
            one(depth);
        }
    }

    private void one(int depth) {
        for (int i = 0; i < 9 && pick(5) == 0; i++) {
            text.append("not ");
        }
        sum(depth);
        if (pick(2) == 0) {
            text.append("<>=".charAt(pick(3)));
            sum(depth);
        }
    }

    private void sum(int depth) {
        term(depth);
        while (pick(4) == 0) {
            text.append("+-".charAt(pick(2)));
            term(depth);
        }
    }

    private void term(int depth) {
        unit(depth);
        while (pick(5) == 0) {
            text.append("*");
            unit(depth);
        }
    }

    private void unit(int depth) {
        int kind = pick(10);
        if (kind < 2 && depth > 0) {
            text.append("(");
            either(depth - 1 + (pick(4) == 0 ? 2 : 0));
            text.append(")");
        } else if (kind < 5) {
            text.append(pick(6) == 0 ? pick(10000) : pick(4));
        } else {
            text.append(LOOKS[pick(LOOKS.length)]);
            text.append(pick(4) == 0 ? " " : "");
        }
    }
}
