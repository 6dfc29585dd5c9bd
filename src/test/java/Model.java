import java.math.BigInteger;
import java.util.ArrayList;
import java.util.Arrays;
import java.util.List;
import java.util.Map;
import java.util.TreeMap;

/** The document written a second time, as plainly as can be and with no thought of room or time. */
final class Model {
    private static final int NONE = -1;

    /** What one sees who is about to rise or not. */
    private record View(Map<String, Integer> words) {
    }

    /** A piece of the law's e. */
    private interface Expr {
        int at(View view);
    }

    private static final class Fault extends Exception {
        private static final long serialVersionUID = 1L;
        final int number;
        final int place;

        Fault(int number, int place) {
            super("fault");
            this.number = number;
            this.place = place;
        }
    }

    private record Token(char kind, String text, int place) {
        int number() {
            return Integer.parseInt(text);
        }
    }

    private record Slack(int from, int to, int by) {
    }

    /** A ring as told. */
    private static final class Told {
        int seats = 24;
        boolean[] dear = new boolean[40];
        boolean[] gap = new boolean[40];
        boolean[] few = new boolean[40];
        List<Slack> slacks = new ArrayList<>();
        int up = 2;
        int rest = 4;
        int sees = 2;
        int shy = 0;
        int units = 2;
        Expr e = view -> view.words.get("left") > 0 ? 1 : 0;
    }

    /** One on a seat: s sits, u up, r rests, - nobody. */
    private static final class One {
        char mode = 's';
        int count = 0;
        int rose = 0;
    }

    /** All that an image keeps. */
    private static final class Now {
        List<One> ones = new ArrayList<>();
        int tenth = 0;
        int asked = 0;
        int[] ways = new int[3];
        int w = 1;

        Now again() {
            Now other = new Now();
            for (One one : ones) {
                One copy = new One();
                copy.mode = one.mode;
                copy.count = one.count;
                copy.rose = one.rose;
                other.ones.add(copy);
            }
            other.tenth = tenth;
            other.asked = asked;
            other.ways = ways.clone();
            other.w = w;
            return other;
        }
    }

    private record Film(int moment, long ups, int told, int[] untold) {
    }

    private final List<Integer> tape = new ArrayList<>();
    private Told told = new Told();
    private Now now = fresh(told, 1);
    private final Now[] boxes = new Now[3];
    private final List<Film> films = new ArrayList<>();
    private int time = 0;
    private int fault = 0;
    private int place = NONE;

    int feed(int... numbers) {
        if (tape.size() + 20 > 800) {
            return NONE;
        }
        for (int number : numbers) {
            for (byte b : java.nio.ByteBuffer.allocate(4).putInt(number).array()) {
                tape.add(b & 255);
            }
        }
        return tape.size();
    }

    int end(int n) {
        if (n < 0 || n > tape.size()) {
            return NONE;
        }
        while (tape.size() > n) {
            tape.remove(tape.size() - 1);
        }
        return n;
    }

    int ring() {
        StringBuilder text = new StringBuilder();
        for (int b : tape) {
            text.append((char) b);
        }
        tape.clear();
        try {
            told = new Parser(text.toString()).ring();
        } catch (Fault found) {
            fault = found.number;
            place = found.place;
            return NONE;
        }
        fault = 0;
        place = NONE;
        now = fresh(told, now.w);
        films.clear();
        Arrays.fill(boxes, null);
        return told.seats;
    }

    int fault(int what) {
        return what == 0 ? fault : what == 1 ? place : NONE;
    }

    int tryNow() {
        return attempt(now, told.few);
    }

    int run(int tenths) {
        if (tenths < 0 || tenths > 400) {
            return NONE;
        }
        int all = 0;
        for (int i = 0; i < tenths; i++) {
            all += tenth(now, told.dear, true).size();
        }
        return all;
    }

    int seat(int seat, int what) {
        if (seat < 0 || seat >= told.seats) {
            return NONE;
        }
        One one = now.ones.get(seat);
        return switch (what) {
            case 0 -> one.mode == '-' ? 40 : one.mode == 's' ? 0 : one.mode == 'u' ? one.count : 10 + one.count;
            case 1 -> one.rose;
            case 2 -> told.gap[seat] ? 2 : told.dear[seat] ? 1 : 0;
            case 3 -> told.few[seat] ? 1 : 0;
            default -> NONE;
        };
    }

    int would() {
        return tenth(now.again(), told.dear, false).size();
    }

    int way(int what) {
        return what < 0 || what > 2 ? NONE : now.ways[what];
    }

    int wide() {
        int most = 0;
        for (int from = 0; from < told.seats; from++) {
            int n = 0;
            while (n < told.seats && now.ones.get((from + n) % told.seats).mode == 'u') {
                n++;
            }
            most = Math.max(most, n);
        }
        return most;
    }

    int waves() {
        return wavesOf(now);
    }

    private int wavesOf(Now at) {
        int begins = 0;
        int ups = 0;
        for (int seat = 0; seat < told.seats; seat++) {
            boolean here = at.ones.get(seat).mode == 'u';
            boolean left = at.ones.get((seat + told.seats - 1) % told.seats).mode == 'u';
            ups += here ? 1 : 0;
            begins += here && !left ? 1 : 0;
        }
        return ups == told.seats ? 1 : begins;
    }

    int till(int seat, int times) {
        if (seat < 0 || seat >= told.seats || times < 1 || times > 9) {
            return NONE;
        }
        Now then = now.again();
        int before = then.ones.get(seat).rose;
        for (int t = 1; t <= 400; t++) {
            tenth(then, told.dear, false);
            if (then.ones.get(seat).rose == before + times) {
                return t;
            }
        }
        return NONE;
    }

    int dies() {
        int t = lasts(now.again(), told.dear, 401);
        return t == 401 ? NONE : t;
    }

    int lives(int x, int n) {
        return isSeat(x) && isMany(n) ? life(x, n, told.dear) : NONE;
    }

    int fewest(int x) {
        for (int n = 1; isSeat(x) && isMany(n); n++) {
            if (life(x, n, told.dear) == 200) {
                return n;
            }
        }
        return NONE;
    }

    int best(int n, int what) {
        if (!isMany(n) || what != 0 && what != 1) {
            return NONE;
        }
        int[] lives = new int[told.seats];
        for (int x = 0; x < told.seats; x++) {
            lives[x] = life(x, n, told.dear);
        }
        int longest = Arrays.stream(lives).max().getAsInt();
        for (int x = 0; what == 0; x++) {
            if (lives[x] == longest) {
                return x;
            }
        }
        return longest;
    }

    int jumps(int x, int n, int y) {
        if (!isSeat(x) || !isMany(n) || !isSeat(y)) {
            return NONE;
        }
        int greatest = NONE;
        for (int b = 0; b <= 9; b++) {
            boolean[] dear = told.dear.clone();
            for (int i = 0; i < b; i++) {
                dear[(y + i) % told.seats] = true;
            }
            boolean on = life(x, n, dear) == 200;
            if (b == 0 && !on) {
                return NONE;
            }
            greatest = on ? b : greatest;
        }
        return greatest;
    }

    int meet(int x, int y, int n) {
        if (!isSeat(x) || !isMany(n) || !isSeat(y)) {
            return NONE;
        }
        boolean[] who = new boolean[40];
        for (int i = 0; i < n; i++) {
            who[(x + i) % told.seats] = true;
            who[(y + i) % told.seats] = true;
        }
        Now then = fresh(told, 1);
        attempt(then, who);
        for (int i = 0; i < 60; i++) {
            tenth(then, told.dear, false);
        }
        return wavesOf(then);
    }

    long odds(int m, int part) {
        if (m < 0 || m > 40 || part != 0 && part != 1) {
            return NONE;
        }
        int c = would();
        if (c > 15) {
            return -2;
        }
        BigInteger upper = BigInteger.ZERO;
        for (int set = 0; set < 1 << c; set++) {
            int rise = Integer.bitCount(set);
            if (rise >= m) {
                upper = upper.add(BigInteger.valueOf(10 - told.shy).pow(rise).multiply(BigInteger.valueOf(told.shy).pow(c - rise)));
            }
        }
        BigInteger lower = BigInteger.TEN.pow(c);
        BigInteger shared = upper.gcd(lower);
        return (part == 0 ? upper : lower).divide(shared).longValueExact();
    }

    int film(int moment, long ups) {
        for (int bit = told.seats; bit < 64; bit++) {
            if ((ups >>> bit & 1) == 1) {
                return NONE;
            }
        }
        if (moment < 0 || moment > 39 || films.size() == 60) {
            return NONE;
        }
        films.add(new Film(moment, ups, time, new int[] {NONE}));
        return films.size() - 1;
    }

    boolean untell(int film) {
        if (film < 0 || film >= films.size() || films.get(film).untold[0] != NONE) {
            return false;
        }
        films.get(film).untold[0] = time;
        return true;
    }

    int later(int by) {
        if (by < 0 || by > 1000 || time + by > 100000) {
            return NONE;
        }
        time += by;
        return time;
    }

    int fits(int k) {
        return fitting(k).size();
    }

    int fit(int i, int k) {
        List<Integer> all = fitting(k);
        return i < 0 || i >= all.size() ? NONE : all.get(i);
    }

    int sure(int seat, int moment, int k) {
        TreeMap<Integer, Long> known = known(k);
        List<Integer> all = fitting(k);
        if (!isSeat(seat) || known.isEmpty() || all.isEmpty() || moment < known.firstKey() || moment > 39) {
            return NONE;
        }
        boolean some = false;
        boolean every = true;
        for (int law : all) {
            List<Long> shown = shown(law, known.firstEntry().getValue(), moment - known.firstKey());
            boolean up = (shown.get(shown.size() - 1) >>> seat & 1) == 1;
            some |= up;
            every &= up;
        }
        return every ? 1 : some ? 2 : 0;
    }

    int same(int a, int b) {
        if (a < 0 || a > 323 || b < 0 || b > 323) {
            return NONE;
        }
        for (int x = 0; x < told.seats; x++) {
            long start = 0;
            for (int n = 0; n < 3; n++) {
                int seat = (x + n) % told.seats;
                start |= told.gap[seat] ? 0 : 1L << seat;
                if (!shown(a, start, 60).equals(shown(b, start, 60))) {
                    return 0;
                }
            }
        }
        return 1;
    }

    int image(int box) {
        if (box < 0 || box > 2) {
            return NONE;
        }
        boxes[box] = now.again();
        return now.tenth;
    }

    int back(int box) {
        if (box < 0 || box > 2 || boxes[box] == null) {
            return NONE;
        }
        now = boxes[box].again();
        return now.tenth;
    }

    int seed(int w) {
        int before = now.w;
        now.w = w;
        return before;
    }

    int about(int what) {
        int[] all = {told.seats, now.tenth, now.asked, ups(now), films.size(), time, tape.size(), now.w, told.units};
        return what < 0 || what >= all.length ? NONE : all[what];
    }

    private boolean isSeat(int x) {
        return x >= 0 && x < told.seats;
    }

    private boolean isMany(int n) {
        return n >= 1 && n <= 12 && n <= told.seats;
    }

    private static Now fresh(Told told, int w) {
        Now now = new Now();
        for (int seat = 0; seat < told.seats; seat++) {
            One one = new One();
            one.mode = told.gap[seat] ? '-' : 's';
            now.ones.add(one);
        }
        now.w = w;
        return now;
    }

    private static int ups(Now now) {
        return (int) now.ones.stream().filter(one -> one.mode == 'u').count();
    }

    private int attempt(Now at, boolean[] who) {
        int n = 0;
        for (int seat = 0; seat < told.seats; seat++) {
            One one = at.ones.get(seat);
            if (who[seat] && one.mode == 's') {
                one.mode = 'u';
                one.count = 1;
                one.rose++;
                n++;
            }
        }
        at.asked++;
        return n;
    }

    private static int seen(Now at, int seat, int step, int sees) {
        int all = at.ones.size();
        int n = 0;
        for (int i = 1; i <= sees && i <= (all - 1) / 2; i++) {
            One one = at.ones.get(Math.floorMod(seat + step * i, all));
            n += one.mode == 'u' && one.count == 1 ? 1 : 0;
        }
        return n;
    }

    private List<Integer> tenth(Now at, boolean[] dear, boolean shy) {
        int number = at.tenth + 1;
        int slack = 0;
        for (int i = told.slacks.size() - 1; i >= 0; i--) {
            Slack line = told.slacks.get(i);
            slack = number >= line.from && number <= line.to ? line.by : slack;
        }
        List<Integer> rising = new ArrayList<>();
        for (int seat = 0; seat < told.seats; seat++) {
            One one = at.ones.get(seat);
            int left = seen(at, seat, -1, told.sees);
            int right = seen(at, seat, 1, told.sees);
            View view = new View(Map.of("left", left, "right", right, "slack", slack, "asked", at.asked,
                "rose", one.rose, "ups", ups(at), "tenth", number));
            if (one.mode != 's' || dear[seat] || told.e.at(view) == 0) {
                continue;
            }
            if (shy && told.shy > 0) {
                at.w = at.w * 1103515245 + 12345;
                if ((at.w >>> 16) % 10 < told.shy) {
                    continue;
                }
            }
            rising.add(seat);
            at.ways[left > 0 && right == 0 ? 0 : right > 0 && left == 0 ? 1 : 2]++;
        }
        for (int seat = 0; seat < told.seats; seat++) {
            pass(at.ones.get(seat), rising.contains(seat), told.up, told.rest);
        }
        at.tenth++;
        return rising;
    }

    private static void pass(One one, boolean rises, int up, int rest) {
        if (rises) {
            one.mode = 'u';
            one.count = 1;
            one.rose++;
        } else if (one.mode == 'u' || one.mode == 'r') {
            one.count++;
            if (one.mode == 'u' && one.count > up) {
                one.mode = 'r';
                one.count = 1;
            }
            if (one.mode == 'r' && one.count > rest) {
                one.mode = 's';
                one.count = 0;
            }
        }
    }

    private int lasts(Now then, boolean[] dear, int most) {
        int t = 0;
        while (t < most && ups(then) > 0) {
            tenth(then, dear, false);
            t++;
        }
        return t;
    }

    private int life(int x, int n, boolean[] dear) {
        boolean[] who = new boolean[40];
        for (int i = 0; i < n; i++) {
            who[(x + i) % told.seats] = true;
        }
        Now then = fresh(told, 1);
        attempt(then, who);
        return lasts(then, dear, 200);
    }

    private TreeMap<Integer, Long> known(int k) {
        TreeMap<Integer, Long> known = new TreeMap<>();
        for (Film film : films) {
            if (film.told <= k && (film.untold[0] == NONE || film.untold[0] > k)) {
                known.put(film.moment, film.ups);
            }
        }
        return known;
    }

    private List<Integer> fitting(int k) {
        TreeMap<Integer, Long> known = known(k);
        List<Integer> all = new ArrayList<>();
        for (int law = 0; law < 324; law++) {
            boolean good = true;
            if (!known.isEmpty()) {
                for (long ups : known.values()) {
                    for (int seat = 0; seat < told.seats; seat++) {
                        good &= !(told.gap[seat] && (ups >>> seat & 1) == 1);
                    }
                }
                int first = known.firstKey();
                List<Long> shown = good ? shown(law, known.get(first), known.lastKey() - first) : List.of();
                for (int moment : known.keySet()) {
                    good = good && shown.get(moment - first).equals(known.get(moment));
                }
            }
            if (good) {
                all.add(law);
            }
        }
        return all;
    }

    /** Who is up by a plain law behind 0, 1, .. tenths. */
    private List<Long> shown(int law, long start, int tenths) {
        int rest = law % 4;
        int up = law / 4 % 3 + 1;
        int need = law / 12 % 3 + 1;
        int sees = law / 36 % 3 + 1;
        int side = law / 108;
        Now at = fresh(told, 1);
        for (int seat = 0; seat < told.seats; seat++) {
            if ((start >>> seat & 1) == 1) {
                at.ones.get(seat).mode = 'u';
                at.ones.get(seat).count = 1;
            }
        }
        List<Long> all = new ArrayList<>();
        for (int t = 0; t <= tenths; t++) {
            long ups = 0;
            boolean[] rises = new boolean[told.seats];
            for (int seat = 0; seat < told.seats; seat++) {
                ups |= at.ones.get(seat).mode == 'u' ? 1L << seat : 0;
                int n = (side == 1 ? 0 : seen(at, seat, -1, sees)) + (side == 0 ? 0 : seen(at, seat, 1, sees));
                rises[seat] = at.ones.get(seat).mode == 's' && !told.dear[seat] && n >= need;
            }
            all.add(ups);
            for (int seat = 0; seat < told.seats; seat++) {
                pass(at.ones.get(seat), rises[seat], up, rest);
            }
        }
        return all;
    }

    /** Reads a ring's text, or throws its first fault. */
    private static final class Parser {
        private final List<Token> tokens = new ArrayList<>();
        private int at = 0;
        private final Told told = new Told();

        Parser(String text) {
            int i = 0;
            while (i < text.length()) {
                int j = i;
                char c = text.charAt(i);
                if (c == ' ' || c == '\n') {
                    i++;
                    continue;
                }
                char kind = '!';
                if (c >= 'a' && c <= 'z') {
                    while (j < text.length() && text.charAt(j) >= 'a' && text.charAt(j) <= 'z') {
                        j++;
                    }
                    kind = j - i <= 8 ? 'w' : '!';
                } else if (c >= '0' && c <= '9') {
                    while (j < text.length() && text.charAt(j) >= '0' && text.charAt(j) <= '9') {
                        j++;
                    }
                    boolean letter = j < text.length() && text.charAt(j) >= 'a' && text.charAt(j) <= 'z';
                    kind = j - i <= 4 && !letter ? 'n' : '!';
                } else {
                    j++;
                    kind = ";()<>=+-*".indexOf(c) >= 0 ? 's' : '!';
                }
                tokens.add(new Token(kind, text.substring(i, j), i));
                i = j;
            }
            tokens.add(new Token('e', "", text.length()));
        }

        private Token here() {
            return tokens.get(at);
        }

        private boolean is(String text) {
            return (here().kind == 'w' || here().kind == 's') && here().text.equals(text);
        }

        private Fault bad() {
            return new Fault(here().kind == '!' ? 1 : 2, here().place);
        }

        private void take(String text) throws Fault {
            if (!is(text)) {
                throw bad();
            }
            at++;
        }

        private int number(int least, int most) throws Fault {
            if (here().kind != 'n') {
                throw bad();
            }
            int n = here().number();
            if (n < least || n > most) {
                throw new Fault(4, here().place);
            }
            at++;
            return n;
        }

        Told ring() throws Fault {
            boolean seats = false;
            boolean places = false;
            boolean law = false;
            while (here().kind != 'e') {
                if (is("seats") && !seats && !places) {
                    at++;
                    told.seats = number(6, 40);
                    seats = true;
                } else if (is("dear") || is("gap") || is("few")) {
                    boolean[] marks = is("dear") ? told.dear : is("gap") ? told.gap : told.few;
                    at++;
                    int from = number(0, told.seats - 1);
                    take("to");
                    int to = number(from, told.seats - 1);
                    Arrays.fill(marks, from, to + 1, true);
                    places = true;
                } else if (is("slack") && told.slacks.size() < 6) {
                    at++;
                    int from = number(0, 999);
                    take("to");
                    int to = number(from, 999);
                    take("by");
                    told.slacks.add(new Slack(from, to, number(0, 9)));
                } else if (is("law") && !law) {
                    at++;
                    law();
                    law = true;
                } else {
                    throw bad();
                }
                take(";");
            }
            return told;
        }

        private void law() throws Fault {
            take("up");
            told.up = number(1, 9);
            take("rest");
            told.rest = number(0, 20);
            take("sees");
            told.sees = number(1, 9);
            take("shy");
            told.shy = number(0, 9);
            take("when");
            told.units = 0;
            told.e = either(0);
        }

        private Expr either(int within) throws Fault {
            Expr first = both(within);
            while (is("or")) {
                at++;
                Expr a = first;
                Expr b = both(within);
                first = view -> a.at(view) != 0 | b.at(view) != 0 ? 1 : 0;
            }
            return first;
        }

        private Expr both(int within) throws Fault {
            Expr first = one(within);
            while (is("and")) {
                at++;
                Expr a = first;
                Expr b = one(within);
                first = view -> a.at(view) != 0 & b.at(view) != 0 ? 1 : 0;
            }
            return first;
        }

        private Expr one(int within) throws Fault {
            if (is("not")) {
                if (within > 6) {
                    throw bad();
                }
                at++;
                Expr a = one(within + 1);
                return view -> a.at(view) == 0 ? 1 : 0;
            }
            Expr a = sum(within);
            String sign = here().text;
            if (!is("<") && !is(">") && !is("=")) {
                return a;
            }
            at++;
            Expr b = sum(within);
            return view -> {
                int order = Integer.compare(a.at(view), b.at(view));
                return order == (sign.equals("<") ? -1 : sign.equals(">") ? 1 : 0) ? 1 : 0;
            };
        }

        private Expr sum(int within) throws Fault {
            Expr first = term(within);
            while (is("+") || is("-")) {
                int by = is("+") ? 1 : -1;
                at++;
                Expr a = first;
                Expr b = term(within);
                first = view -> a.at(view) + by * b.at(view);
            }
            return first;
        }

        private Expr term(int within) throws Fault {
            Expr first = unit(within);
            while (is("*")) {
                at++;
                Expr a = first;
                Expr b = unit(within);
                first = view -> a.at(view) * b.at(view);
            }
            return first;
        }

        private Expr unit(int within) throws Fault {
            told.units++;
            if (told.units > 30) {
                throw bad();
            }
            if (is("(")) {
                if (within > 6) {
                    throw bad();
                }
                at++;
                Expr inner = either(within + 1);
                take(")");
                return inner;
            }
            String text = here().text;
            if (here().kind == 'n') {
                int n = number(0, 9999);
                return view -> n;
            }
            if (here().kind == 'w' && List.of("left", "right", "slack", "asked", "rose", "ups", "tenth").contains(text)) {
                at++;
                return view -> view.words.get(text);
            }
            throw bad();
        }
    }
}
