/** A wave that goes round a ring of seats; ../shared/DOC.md says in numbered promises what each call answers. */
public final class WaveRing {
    public static final int NONE = -1;

    private static final int TAPE_MOST = 800;
    private static final int FED = 20;
    private static final int SEATS_MOST = 40;
    private static final int SLACKS_MOST = 6;
    private static final int UNITS_MOST = 30;
    private static final int NESTED_MOST = 7;
    // Each unit, what joins it to the next, and each not, which takes four bytes: its own and one that parts it.
    private static final int CODE_MOST = 2 * UNITS_MOST + TAPE_MOST / 4;
    private static final int BOXES = 3;
    private static final int FILMS_MOST = 60;
    private static final int MOMENTS = 40;
    private static final int LATER_MOST = 1000;
    private static final int TIME_MOST = 100000;
    private static final int RUN_MOST = 400;
    private static final int TENTHS_MOST = 1000000;
    private static final int COMES_MOST = 400;
    private static final int TIMES_MOST = 9;
    private static final int LIVES_MOST = 200;
    private static final int TRIERS_MOST = 12;
    private static final int BLOCK_MOST = 9;
    private static final int MEET_TENTHS = 60;
    private static final int ODDS_MOST = 15;
    private static final int SPENT = -2;
    private static final int PLAIN_LAWS = 324;
    private static final int SAME_STARTS = 3;
    private static final int SAME_TENTHS = 60;

    private static final int SITS = 0;
    private static final int UP_FIRST = 1;
    private static final int RESTS = 10;
    private static final int GAP = 40;

    private static final int TO_RIGHT = 0;
    private static final int TO_LEFT = 1;
    private static final int NEITHER = 2;
    private static final int WAYS = 3;

    private static final int NO_TOKEN = 1;
    private static final int CANT_STAND = 2;
    private static final int CANT_BE = 4;

    private static final int END = 0;
    private static final int WORD = 1;
    private static final int NUMBER = 2;
    private static final int SIGN = 3;
    private static final int BAD = 4;
    private static final int WORD_MOST = 8;
    private static final int DIGITS_MOST = 4;

    private static final int LEFT = 0;
    private static final int RIGHT = 1;
    private static final int SLACK = 2;
    private static final int ASKED = 3;
    private static final int ROSE = 4;
    private static final int UPS = 5;
    private static final int TENTH = 6;
    private static final int LOOKS = 7;

    // A part of a law's code is a number as it is, a look, or what joins the values ahead of it.
    private static final int FIRST_LOOK = 10000;
    private static final int FIRST_JOIN = 20000;
    private static final int NOT = 20000;
    private static final int AND = 20001;
    private static final int OR = 20002;
    private static final int LESS = 20003;
    private static final int MORE = 20004;
    private static final int EQUAL = 20005;
    private static final int PLUS = 20006;
    private static final int MINUS = 20007;
    private static final int TIMES = 20008;

    private final Tape tape = new Tape();
    private Ring told = new Ring();
    private Ring spare = new Ring();
    private final Reader reader = new Reader(tape, spare);
    private final Crowd crowd = new Crowd();
    private final Crowd dream = new Crowd();
    private final Crowd[] boxes = new Crowd[BOXES];
    private final boolean[] kept = new boolean[BOXES];
    private final Films films = new Films();
    private final Plain plain = new Plain(told);
    private final Plain otherPlain = new Plain(told);
    private final long[] chances = new long[ODDS_MOST + 1];

    public WaveRing() {
        for (int box = 0; box < boxes.length; box++) {
            boxes[box] = new Crowd();
        }
    }

    public int feed(int a, int b, int c, int d, int e) {
        if (tape.length > TAPE_MOST - FED) {
            return NONE;
        }
        tape.add(a);
        tape.add(b);
        tape.add(c);
        tape.add(d);
        tape.add(e);
        return tape.length;
    }

    public int end(int n) {
        if (n < 0 || n > tape.length) {
            return NONE;
        }
        tape.length = n;
        return n;
    }

    public int ring() {
        boolean whole = reader.readInto(spare);
        tape.length = 0;
        if (!whole) {
            return NONE;
        }
        Ring before = told;
        told = spare;
        spare = before;
        crowd.freshen();
        films.forget();
        for (int box = 0; box < kept.length; box++) {
            kept[box] = false;
        }
        return told.seats;
    }

    public int fault(int what) {
        if (what == 0) {
            return reader.fault;
        }
        return what == 1 ? reader.place : NONE;
    }

    public int tryNow() {
        return crowd.raise(told, told.few);
    }

    public int run(int tenths) {
        if (tenths < 0 || tenths > RUN_MOST || tenths > TENTHS_MOST - crowd.tenths) {
            return NONE;
        }
        int risen = 0;
        for (int i = 0; i < tenths; i++) {
            risen += Long.bitCount(crowd.liveOn(told));
        }
        return risen;
    }

    public int seat(int seat, int what) {
        if (!told.has(seat)) {
            return NONE;
        }
        boolean gap = holds(told.gaps, seat);
        switch (what) {
            case 0:
                return gap ? GAP : crowd.stateOf(seat);
            case 1:
                return crowd.risesOf(seat);
            case 2:
                return gap ? 2 : oneIf(holds(told.dear, seat));
            case 3:
                return oneIf(holds(told.few, seat));
            default:
                return NONE;
        }
    }

    public int would() {
        return Long.bitCount(crowd.willing(told, told.dear));
    }

    public int way(int what) {
        return crowd.risenBy(what);
    }

    public int wide() {
        return told.widest(crowd.ups);
    }

    public int waves() {
        return told.stretches(crowd.ups);
    }

    public int till(int seat, int times) {
        if (!told.has(seat) || times < 1 || times > TIMES_MOST) {
            return NONE;
        }
        dream.copy(crowd);
        int risen = 0;
        for (int tenth = 1; tenth <= COMES_MOST; tenth++) {
            if (holds(dream.dreamOn(told, told.dear), seat)) {
                risen++;
            }
            if (risen == times) {
                return tenth;
            }
        }
        return NONE;
    }

    public int dies() {
        dream.copy(crowd);
        int tenths = dream.tillNobodyUp(told, told.dear, COMES_MOST + 1);
        return tenths > COMES_MOST ? NONE : tenths;
    }

    public int lives(int x, int n) {
        if (!told.has(x) || !canTry(n)) {
            return NONE;
        }
        return lifeOf(told.seatsFrom(x, n), told.dear);
    }

    public int fewest(int x) {
        if (!told.has(x)) {
            return NONE;
        }
        for (int n = 1; n <= TRIERS_MOST && canTry(n); n++) {
            if (lifeOf(told.seatsFrom(x, n), told.dear) == LIVES_MOST) {
                return n;
            }
        }
        return NONE;
    }

    public int best(int n, int what) {
        if (!canTry(n) || what < 0 || what > 1) {
            return NONE;
        }
        int bestSeat = 0;
        int longest = NONE;
        // One that lives as long as can be is not outdone by a later one.
        for (int x = 0; x < told.seats && longest < LIVES_MOST; x++) {
            int life = lifeOf(told.seatsFrom(x, n), told.dear);
            if (life > longest) {
                longest = life;
                bestSeat = x;
            }
        }
        return what == 0 ? bestSeat : longest;
    }

    public int jumps(int x, int n, int y) {
        if (!told.has(x) || !canTry(n) || !told.has(y)) {
            return NONE;
        }
        long who = told.seatsFrom(x, n);
        if (lifeOf(who, told.dear) < LIVES_MOST) {
            return NONE;
        }
        for (int block = BLOCK_MOST; block > 0; block--) {
            if (lifeOf(who, told.dear | told.seatsFrom(y, block)) == LIVES_MOST) {
                return block;
            }
        }
        return 0;
    }

    public int meet(int x, int y, int n) {
        if (!told.has(x) || !told.has(y) || !canTry(n)) {
            return NONE;
        }
        dream.freshen();
        dream.raise(told, told.seatsFrom(x, n) | told.seatsFrom(y, n));
        for (int tenth = 0; tenth < MEET_TENTHS; tenth++) {
            dream.dreamOn(told, told.dear);
        }
        return told.stretches(dream.ups);
    }

    public long odds(int m, int part) {
        if (m < 0 || m > SEATS_MOST || part < 0 || part > 1) {
            return NONE;
        }
        int might = would();
        if (might > ODDS_MOST) {
            return SPENT;
        }
        long upper = chancesOfAtLeast(m, might);
        long lower = 1;
        for (int i = 0; i < might; i++) {
            lower *= 10;
        }
        long shared = greatestDivisor(upper, lower);
        if (shared == 0) {
            return NONE;
        }
        return part == 0 ? upper / shared : lower / shared;
    }

    public int film(int moment, long ups) {
        if (moment < 0 || moment >= MOMENTS || (ups & ~told.everySeat()) != 0) {
            return NONE;
        }
        return films.tell(moment, ups);
    }

    public boolean untell(int film) {
        return films.takeBack(film);
    }

    public int later(int by) {
        if (by < 0 || by > LATER_MOST || by > TIME_MOST - films.time) {
            return NONE;
        }
        films.time += by;
        return films.time;
    }

    public int fits(int k) {
        films.recall(k);
        int fitting = 0;
        for (int law = 0; law < PLAIN_LAWS; law++) {
            fitting += oneIf(letByFilms(law));
        }
        return fitting;
    }

    public int fit(int i, int k) {
        if (i < 0 || i >= PLAIN_LAWS) {
            return NONE;
        }
        films.recall(k);
        int ahead = 0;
        for (int law = 0; law < PLAIN_LAWS; law++) {
            if (letByFilms(law)) {
                if (ahead == i) {
                    return law;
                }
                ahead++;
            }
        }
        return NONE;
    }

    public int sure(int seat, int moment, int k) {
        films.recall(k);
        if (!told.has(seat) || films.first == NONE || moment < films.first || moment >= MOMENTS) {
            return NONE;
        }
        int fitting = 0;
        int up = 0;
        for (int law = 0; law < PLAIN_LAWS; law++) {
            if (letByFilms(law)) {
                fitting++;
                up += oneIf(holds(films.shownBy(plain, moment), seat));
            }
        }
        if (fitting == 0) {
            return NONE;
        }
        if (up == fitting) {
            return 1;
        }
        return up == 0 ? 0 : 2;
    }

    public int same(int a, int b) {
        if (a < 0 || a >= PLAIN_LAWS || b < 0 || b >= PLAIN_LAWS) {
            return NONE;
        }
        plain.take(a, told);
        otherPlain.take(b, told);
        for (int n = 1; n <= SAME_STARTS; n++) {
            for (int x = 0; x < told.seats; x++) {
                if (!goAlike(told.seatsFrom(x, n) & ~told.gaps)) {
                    return 0;
                }
            }
        }
        return 1;
    }

    public int image(int box) {
        if (!isBox(box)) {
            return NONE;
        }
        boxes[box].copy(crowd);
        kept[box] = true;
        return crowd.tenths;
    }

    public int back(int box) {
        if (!isBox(box) || !kept[box]) {
            return NONE;
        }
        crowd.copy(boxes[box]);
        return crowd.tenths;
    }

    public int seed(int w) {
        int before = crowd.drawn;
        crowd.drawn = w;
        return before;
    }

    public int about(int what) {
        switch (what) {
            case 0:
                return told.seats;
            case 1:
                return crowd.tenths;
            case 2:
                return crowd.asked;
            case 3:
                return Long.bitCount(crowd.ups);
            case 4:
                return films.count;
            case 5:
                return films.time;
            case 6:
                return tape.length;
            case 7:
                return crowd.drawn;
            case 8:
                return told.law.units;
            default:
                return NONE;
        }
    }

    private boolean isBox(int box) {
        return box >= 0 && box < BOXES && boxes[box] != null;
    }

    private boolean canTry(int n) {
        return n >= 1 && n <= TRIERS_MOST && n <= told.seats;
    }

    private int lifeOf(long who, long dear) {
        dream.freshen();
        dream.raise(told, who);
        return dream.tillNobodyUp(told, dear, LIVES_MOST);
    }

    /** Of 10 to the power of might equal chances, how many let at least m rise. */
    private long chancesOfAtLeast(int m, int might) {
        for (int i = 0; i < chances.length; i++) {
            chances[i] = i == 0 ? 1 : 0;
        }
        for (int one = 0; one < might; one++) {
            for (int i = chances.length - 1; i >= 0; i--) {
                long withOneFewer = i > 0 ? chances[i - 1] : 0;
                chances[i] = chances[i] * told.shy + withOneFewer * (10 - told.shy);
            }
        }
        long together = 0;
        for (int i = 0; i < chances.length; i++) {
            together += i >= m ? chances[i] : 0;
        }
        return together;
    }

    private static long greatestDivisor(long a, long b) {
        long greater = a;
        long rest = b;
        // Each second turn halves what is left, so 128 turns end with any two longs.
        for (int i = 0; i < 128 && rest != 0; i++) {
            long next = greater % rest;
            greater = rest;
            rest = next;
        }
        return greater;
    }

    private boolean letByFilms(int law) {
        plain.take(law, told);
        return films.let(plain);
    }

    private boolean goAlike(long start) {
        plain.begin(start);
        otherPlain.begin(start);
        for (int tenth = 0; tenth < SAME_TENTHS; tenth++) {
            plain.goOn();
            otherPlain.goOn();
            if (plain.allUp() != otherPlain.allUp()) {
                return false;
            }
        }
        return true;
    }

    private static boolean holds(long seats, int seat) {
        return (seats >>> seat & 1L) != 0;
    }

    private static int oneIf(boolean so) {
        return so ? 1 : 0;
    }

    /** The bytes that were fed and not yet read. */
    private static final class Tape {
        private final byte[] bytes = new byte[TAPE_MOST];
        private int length;

        void add(int four) {
            for (int shift = 24; shift >= 0; shift -= 8) {
                if (length >= 0 && length < bytes.length) {
                    bytes[length] = (byte) (four >>> shift);
                    length++;
                }
            }
        }

        /** The byte at a place, or NONE behind the last one. */
        int at(int place) {
            return place >= 0 && place < length && place < bytes.length ? bytes[place] & 255 : NONE;
        }
    }

    /** A law's e, its units and signs in the order in which they are worked out. */
    private static final class Law {
        private final int[] code = new int[CODE_MOST];
        private final int[] stack = new int[UNITS_MOST];
        private int length;
        private int units;

        void clear() {
            length = 0;
            units = 0;
        }

        void add(int part) {
            if (length >= 0 && length < code.length) {
                code[length] = part;
                length++;
            }
        }

        void addUnit(int part) {
            add(part);
            units++;
        }

        int worth(int[] looks) {
            int high = 0;
            for (int i = 0; i < length && i < code.length; i++) {
                int part = code[i];
                if (part < FIRST_JOIN) {
                    if (high < stack.length) {
                        stack[high] = part < FIRST_LOOK ? part : lookedUp(looks, part - FIRST_LOOK);
                        high++;
                    }
                } else if (part == NOT) {
                    if (high >= 1) {
                        stack[high - 1] = stack[high - 1] == 0 ? 1 : 0;
                    }
                } else if (high >= 2) {
                    stack[high - 2] = joined(part, stack[high - 2], stack[high - 1]);
                    high--;
                }
            }
            return stack[0];
        }

        private static int lookedUp(int[] looks, int which) {
            return which >= 0 && which < looks.length ? looks[which] : 0;
        }

        private static int joined(int part, int first, int second) {
            switch (part) {
                case AND:
                    return first != 0 && second != 0 ? 1 : 0;
                case OR:
                    return first != 0 || second != 0 ? 1 : 0;
                case LESS:
                    return first < second ? 1 : 0;
                case MORE:
                    return first > second ? 1 : 0;
                case EQUAL:
                    return first == second ? 1 : 0;
                case PLUS:
                    return first + second;
                case MINUS:
                    return first - second;
                default:
                    return first * second;
            }
        }
    }

    /** A ring as a text tells it; sets of seats are bits. */
    private static final class Ring {
        private final Law law = new Law();
        private final int[] slackFrom = new int[SLACKS_MOST];
        private final int[] slackTo = new int[SLACKS_MOST];
        private final int[] slackBy = new int[SLACKS_MOST];
        private int slacks;
        private int seats;
        private long gaps;
        private long dear;
        private long few;
        private int up;
        private int rest;
        private int sees;
        private int shy;

        Ring() {
            empty();
        }

        void empty() {
            slacks = 0;
            seats = 24;
            gaps = 0;
            dear = 0;
            few = 0;
            up = 2;
            rest = 4;
            sees = 2;
            shy = 0;
            law.clear();
            law.addUnit(FIRST_LOOK + LEFT);
            law.addUnit(0);
            law.add(MORE);
        }

        boolean has(int seat) {
            return seat >= 0 && seat < seats;
        }

        long everySeat() {
            return (1L << seats) - 1;
        }

        /** So many seats from x on, round. */
        long seatsFrom(int x, int n) {
            return turned((1L << Math.min(n, seats)) - 1, x);
        }

        /** The seats that many places to the right of those, round; by is 0 up to all seats. */
        long turned(long those, int by) {
            return (those << by | those >>> (seats - by)) & everySeat();
        }

        /** How many seats one sees on each side who would see so many. */
        int sightOf(int wished) {
            return Math.min(wished, (seats - 1) / 2);
        }

        void addSlack(int from, int to, int by) {
            if (slacks >= 0 && slacks < SLACKS_MOST) {
                slackFrom[slacks] = from;
                slackTo[slacks] = to;
                slackBy[slacks] = by;
                slacks++;
            }
        }

        int slackIn(int tenth) {
            for (int i = 0; i < slacks && i < SLACKS_MOST; i++) {
                if (tenth >= slackFrom[i] && tenth <= slackTo[i]) {
                    return slackBy[i];
                }
            }
            return 0;
        }

        int widest(long those) {
            long runs = those;
            int width = 0;
            // Each turn takes one seat off every stretch; one that goes all round never ends so.
            while (width < seats && runs != 0) {
                runs &= turned(runs, 1);
                width++;
            }
            return width;
        }

        int stretches(long those) {
            if (those == everySeat()) {
                return 1;
            }
            return Long.bitCount(those & ~turned(those, 1));
        }
    }

    /** Reads the tape as a ring, up to its first fault. */
    private static final class Reader {
        private final Tape tape;
        private Ring into;
        private boolean seatsTold;
        private boolean placesTold;
        private boolean lawTold;
        private int kind;
        private int tokenAt;
        private int tokenEnd;
        private int number;
        private int fault;
        private int place;

        Reader(Tape tape, Ring into) {
            this.tape = tape;
            this.into = into;
            this.place = NONE;
        }

        boolean readInto(Ring ring) {
            into = ring;
            into.empty();
            seatsTold = false;
            placesTold = false;
            lawTold = false;
            fault = 0;
            place = NONE;
            tokenEnd = 0;
            step();
            boolean going = true;
            for (int line = 0; line <= TAPE_MOST && going && kind != END; line++) {
                going = readLine();
            }
            return going;
        }

        private boolean readLine() {
            if (isWord("seats")) {
                return readSeats();
            }
            if (isWord("dear") || isWord("gap") || isWord("few")) {
                return readPlaces();
            }
            if (isWord("slack")) {
                return readSlack();
            }
            if (isWord("law")) {
                return readLaw();
            }
            return refuse();
        }

        private boolean readSeats() {
            if (seatsTold || placesTold) {
                return refuse();
            }
            seatsTold = true;
            step();
            if (!takeNumber(6, SEATS_MOST)) {
                return false;
            }
            into.seats = number;
            step();
            return takeSign(';');
        }

        private boolean readPlaces() {
            boolean dear = isWord("dear");
            boolean gap = isWord("gap");
            placesTold = true;
            step();
            if (!takeNumber(0, into.seats - 1)) {
                return false;
            }
            int first = number;
            step();
            if (!takeWord("to") || !takeNumber(first, into.seats - 1)) {
                return false;
            }
            long those = into.seatsFrom(first, number - first + 1);
            step();
            if (dear) {
                into.dear |= those;
            } else if (gap) {
                into.gaps |= those;
            } else {
                into.few |= those;
            }
            return takeSign(';');
        }

        private boolean readSlack() {
            if (into.slacks >= SLACKS_MOST) {
                return refuse();
            }
            step();
            if (!takeNumber(0, 999)) {
                return false;
            }
            int from = number;
            step();
            if (!takeWord("to") || !takeNumber(from, 999)) {
                return false;
            }
            int to = number;
            step();
            if (!takeWord("by") || !takeNumber(0, 9)) {
                return false;
            }
            into.addSlack(from, to, number);
            step();
            return takeSign(';');
        }

        private boolean readLaw() {
            if (lawTold) {
                return refuse();
            }
            lawTold = true;
            step();
            if (!takeWord("up") || !takeNumber(1, 9)) {
                return false;
            }
            into.up = number;
            step();
            if (!takeWord("rest") || !takeNumber(0, 20)) {
                return false;
            }
            into.rest = number;
            step();
            if (!takeWord("sees") || !takeNumber(1, 9)) {
                return false;
            }
            into.sees = number;
            step();
            if (!takeWord("shy") || !takeNumber(0, 9)) {
                return false;
            }
            into.shy = number;
            step();
            into.law.clear();
            return takeWord("when") && readEither(0) && takeSign(';');
        }

        /** An e that is within so many others. */
        private boolean readEither(int depth) {
            boolean going = readBoth(depth);
            for (int more = 0; more < UNITS_MOST && going && isWord("or"); more++) {
                step();
                going = readBoth(depth);
                into.law.add(OR);
            }
            return going;
        }

        private boolean readBoth(int depth) {
            boolean going = readOne(depth);
            for (int more = 0; more < UNITS_MOST && going && isWord("and"); more++) {
                step();
                going = readOne(depth);
                into.law.add(AND);
            }
            return going;
        }

        private boolean readOne(int depth) {
            if (isWord("not")) {
                if (depth >= NESTED_MOST) {
                    return refuse();
                }
                step();
                boolean going = readOne(depth + 1);
                into.law.add(NOT);
                return going;
            }
            if (!readSum(depth)) {
                return false;
            }
            int relation = relationHere();
            if (relation == NONE) {
                return true;
            }
            step();
            boolean going = readSum(depth);
            into.law.add(relation);
            return going;
        }

        private int relationHere() {
            if (isSign('<')) {
                return LESS;
            }
            if (isSign('>')) {
                return MORE;
            }
            return isSign('=') ? EQUAL : NONE;
        }

        private boolean readSum(int depth) {
            boolean going = readTerm(depth);
            for (int more = 0; more < UNITS_MOST && going && (isSign('+') || isSign('-')); more++) {
                int part = isSign('+') ? PLUS : MINUS;
                step();
                going = readTerm(depth);
                into.law.add(part);
            }
            return going;
        }

        private boolean readTerm(int depth) {
            boolean going = readUnit(depth);
            for (int more = 0; more < UNITS_MOST && going && isSign('*'); more++) {
                step();
                going = readUnit(depth);
                into.law.add(TIMES);
            }
            return going;
        }

        private boolean readUnit(int depth) {
            if (into.law.units >= UNITS_MOST) {
                return refuse();
            }
            if (isSign('(')) {
                return readNested(depth);
            }
            int look = lookHere();
            if (kind != NUMBER && look == NONE) {
                return refuse();
            }
            into.law.addUnit(kind == NUMBER ? number : FIRST_LOOK + look);
            step();
            return true;
        }

        private boolean readNested(int depth) {
            if (depth >= NESTED_MOST) {
                return refuse();
            }
            into.law.units++;
            step();
            if (!readEither(depth + 1)) {
                return false;
            }
            // Not by takeSign: from here it would make the calls nine deep.
            if (!isSign(')')) {
                return refuse();
            }
            step();
            return true;
        }

        private int lookHere() {
            if (isWord("left")) {
                return LEFT;
            }
            if (isWord("right")) {
                return RIGHT;
            }
            if (isWord("slack")) {
                return SLACK;
            }
            if (isWord("asked")) {
                return ASKED;
            }
            if (isWord("rose")) {
                return ROSE;
            }
            if (isWord("ups")) {
                return UPS;
            }
            return isWord("tenth") ? TENTH : NONE;
        }

        private boolean takeWord(String word) {
            if (!isWord(word)) {
                return refuse();
            }
            step();
            return true;
        }

        private boolean takeSign(char sign) {
            if (!isSign(sign)) {
                return refuse();
            }
            step();
            return true;
        }

        /** Whether a number in that range is here; it is still to be stepped over. */
        private boolean takeNumber(int least, int most) {
            if (kind != NUMBER) {
                return refuse();
            }
            if (number < least || number > most) {
                fault = CANT_BE;
                place = tokenAt;
                return false;
            }
            return true;
        }

        private boolean refuse() {
            fault = kind == BAD ? NO_TOKEN : CANT_STAND;
            place = tokenAt;
            return false;
        }

        private boolean isSign(char sign) {
            return kind == SIGN && tape.at(tokenAt) == sign;
        }

        private boolean isWord(String word) {
            if (kind != WORD || tokenEnd - tokenAt != word.length()) {
                return false;
            }
            for (int i = 0; i < word.length(); i++) {
                if (tape.at(tokenAt + i) != word.charAt(i)) {
                    return false;
                }
            }
            return true;
        }

        /** Goes on to the next token. */
        private void step() {
            int start = tokenEnd;
            while (start < TAPE_MOST && isBlank(tape.at(start))) {
                start++;
            }
            tokenAt = start;
            int first = tape.at(start);
            if (first == NONE) {
                kind = END;
                tokenEnd = start;
            } else if (isLetter(first)) {
                readWord();
            } else if (isDigit(first)) {
                readNumber();
            } else {
                kind = isOneOfTheSigns(first) ? SIGN : BAD;
                tokenEnd = start + 1;
            }
        }

        private void readWord() {
            int stop = tokenAt;
            while (stop < TAPE_MOST && isLetter(tape.at(stop))) {
                stop++;
            }
            tokenEnd = stop;
            kind = stop - tokenAt > WORD_MOST ? BAD : WORD;
        }

        private void readNumber() {
            int stop = tokenAt;
            number = 0;
            while (stop < TAPE_MOST && isDigit(tape.at(stop))) {
                number = number * 10 + tape.at(stop) - '0';
                stop++;
            }
            tokenEnd = stop;
            kind = stop - tokenAt > DIGITS_MOST || isLetter(tape.at(stop)) ? BAD : NUMBER;
        }

        private static boolean isBlank(int sign) {
            return sign == 32 || sign == 10;
        }

        private static boolean isLetter(int sign) {
            return sign >= 'a' && sign <= 'z';
        }

        private static boolean isDigit(int sign) {
            return sign >= '0' && sign <= '9';
        }

        private static boolean isOneOfTheSigns(int sign) {
            return sign >= '(' && sign <= '+' || sign == '-' || sign >= ';' && sign <= '>';
        }
    }

    /** Those on the seats of a ring, as they are now. */
    private static final class Crowd {
        private final int[] states = new int[SEATS_MOST];
        private final int[] rises = new int[SEATS_MOST];
        private final int[] ways = new int[WAYS];
        private final int[] looks = new int[LOOKS];
        // As bits, so that no tenth has to go through the states to see them.
        private long ups;
        private long firsts;
        private int tenths;
        private int asked;
        private int drawn = 1;

        /** As in a fresh ring; what was drawn last stays. */
        void freshen() {
            for (int seat = 0; seat < SEATS_MOST; seat++) {
                states[seat] = SITS;
                rises[seat] = 0;
            }
            for (int way = 0; way < WAYS; way++) {
                ways[way] = 0;
            }
            ups = 0;
            firsts = 0;
            tenths = 0;
            asked = 0;
        }

        void copy(Crowd other) {
            for (int seat = 0; seat < SEATS_MOST; seat++) {
                states[seat] = other.states[seat];
                rises[seat] = other.rises[seat];
            }
            for (int way = 0; way < WAYS; way++) {
                ways[way] = other.ways[way];
            }
            ups = other.ups;
            firsts = other.firsts;
            tenths = other.tenths;
            asked = other.asked;
            drawn = other.drawn;
        }

        int stateOf(int seat) {
            return seat >= 0 && seat < SEATS_MOST ? states[seat] : NONE;
        }

        int risesOf(int seat) {
            return seat >= 0 && seat < SEATS_MOST ? rises[seat] : NONE;
        }

        int risenBy(int way) {
            return way >= 0 && way < WAYS ? ways[way] : NONE;
        }

        /** Those of who that sit are up at once; answers how many that are. */
        int raise(Ring ring, long who) {
            int raised = 0;
            for (int seat = 0; seat < SEATS_MOST; seat++) {
                if (holds(who & ~ring.gaps, seat) && states[seat] == SITS) {
                    states[seat] = UP_FIRST;
                    rises[seat]++;
                    ups |= 1L << seat;
                    firsts |= 1L << seat;
                    raised++;
                }
            }
            asked++;
            return raised;
        }

        /** Who would rise in the tenth that begins if nobody were shy. */
        long willing(Ring ring, long dear) {
            looks[SLACK] = ring.slackIn(tenths + 1);
            looks[ASKED] = asked;
            looks[UPS] = Long.bitCount(ups);
            looks[TENTH] = tenths + 1;
            long fixed = ring.gaps | dear;
            long those = 0;
            for (int seat = 0; seat < SEATS_MOST && seat < ring.seats; seat++) {
                if (states[seat] == SITS && !holds(fixed, seat)) {
                    lookAround(ring, seat);
                    looks[ROSE] = rises[seat];
                    if (ring.law.worth(looks) != 0) {
                        those |= 1L << seat;
                    }
                }
            }
            return those;
        }

        private void lookAround(Ring ring, int seat) {
            int sight = ring.sightOf(ring.sees);
            // Seen from its own place each seat is number 0, and the one on its left the last.
            long seen = ring.turned(firsts, ring.seats - seat);
            looks[LEFT] = Long.bitCount(seen >>> (ring.seats - sight));
            looks[RIGHT] = Long.bitCount((seen >>> 1) & ((1L << sight) - 1));
        }

        /** One tenth as it is, with the shy ones drawn; answers who rises. */
        long liveOn(Ring ring) {
            long rising = withoutTheShy(willing(ring, ring.dear), ring.shy);
            countWays(ring, rising);
            move(ring, rising);
            return rising;
        }

        /** One tenth as if nobody were shy; answers who rises. */
        long dreamOn(Ring ring, long dear) {
            long rising = willing(ring, dear);
            move(ring, rising);
            return rising;
        }

        /** The tenths till nobody is up, or most if that is later. */
        int tillNobodyUp(Ring ring, long dear, int most) {
            int passed = 0;
            while (passed < most && ups != 0) {
                dreamOn(ring, dear);
                passed++;
            }
            return passed;
        }

        private long withoutTheShy(long those, int shy) {
            long bold = those;
            if (shy == 0) {
                return bold;
            }
            for (int seat = 0; seat < SEATS_MOST; seat++) {
                if (holds(those, seat) && drawOfTen() < shy) {
                    bold &= ~(1L << seat);
                }
            }
            return bold;
        }

        private int drawOfTen() {
            drawn = drawn * 1103515245 + 12345;
            return (drawn >>> 16) % 10;
        }

        private void countWays(Ring ring, long rising) {
            for (int seat = 0; seat < SEATS_MOST; seat++) {
                if (holds(rising, seat)) {
                    lookAround(ring, seat);
                    countWay(wayOf(looks[LEFT], looks[RIGHT]));
                }
            }
        }

        private void countWay(int way) {
            if (way >= 0 && way < WAYS) {
                ways[way]++;
            }
        }

        private static int wayOf(int left, int right) {
            if (left > 0 && right == 0) {
                return TO_RIGHT;
            }
            return right > 0 && left == 0 ? TO_LEFT : NEITHER;
        }

        private void move(Ring ring, long rising) {
            ups = rising;
            firsts = rising;
            for (int seat = 0; seat < SEATS_MOST && seat < ring.seats; seat++) {
                if (holds(rising, seat)) {
                    states[seat] = UP_FIRST;
                    rises[seat]++;
                } else if (states[seat] != SITS) {
                    states[seat] = stateBehind(ring, states[seat]);
                    ups |= states[seat] != SITS && states[seat] < RESTS ? 1L << seat : 0;
                }
            }
            tenths++;
        }

        /** The state a tenth later of one who is up or rests. */
        private static int stateBehind(Ring ring, int state) {
            if (state < RESTS) {
                if (state < ring.up) {
                    return state + 1;
                }
                return ring.rest > 0 ? RESTS + 1 : SITS;
            }
            return state - RESTS < ring.rest ? state + 1 : SITS;
        }
    }

    /** What was told of moments, and when; and what of it is known at a time. */
    private static final class Films {
        private final int[] moments = new int[FILMS_MOST];
        private final long[] ups = new long[FILMS_MOST];
        private final int[] toldAt = new int[FILMS_MOST];
        private final int[] untoldAt = new int[FILMS_MOST];
        private final boolean[] known = new boolean[MOMENTS];
        private final long[] shown = new long[MOMENTS];
        private int count;
        private int time;
        private int first = NONE;
        private int last = NONE;

        void forget() {
            count = 0;
        }

        int tell(int moment, long those) {
            if (count < 0 || count >= FILMS_MOST) {
                return NONE;
            }
            moments[count] = moment;
            ups[count] = those;
            toldAt[count] = time;
            untoldAt[count] = NONE;
            count++;
            return count - 1;
        }

        boolean takeBack(int film) {
            if (film < 0 || film >= count || film >= FILMS_MOST || untoldAt[film] != NONE) {
                return false;
            }
            untoldAt[film] = time;
            return true;
        }

        /** Makes known and shown what counts at time k, and first and last its moments' ends. */
        void recall(int k) {
            for (int moment = 0; moment < MOMENTS; moment++) {
                known[moment] = false;
            }
            for (int film = 0; film < count && film < FILMS_MOST; film++) {
                int moment = moments[film];
                if (counts(film, k) && moment >= 0 && moment < MOMENTS) {
                    known[moment] = true;
                    shown[moment] = ups[film];
                }
            }
            first = NONE;
            last = NONE;
            for (int moment = 0; moment < MOMENTS; moment++) {
                if (known[moment]) {
                    first = first == NONE ? moment : first;
                    last = moment;
                }
            }
        }

        private boolean counts(int film, int k) {
            boolean isUntold = untoldAt[film] != NONE && untoldAt[film] <= k;
            return toldAt[film] <= k && !isUntold;
        }

        /** Whether a plain law fits what is known. */
        boolean let(Plain plain) {
            if (first < 0 || first >= MOMENTS) {
                return true;
            }
            if ((shown[first] & plain.ring.gaps) != 0) {
                return false;
            }
            plain.begin(shown[first]);
            for (int moment = first + 1; moment <= last && moment < MOMENTS; moment++) {
                plain.goOn();
                if (known[moment] && plain.allUp() != shown[moment]) {
                    return false;
                }
            }
            return true;
        }

        /** Who is up by a plain law in a moment. */
        long shownBy(Plain plain, int moment) {
            if (first < 0 || first >= MOMENTS) {
                return 0;
            }
            plain.begin(shown[first]);
            for (int i = first; i < moment && i < MOMENTS; i++) {
                plain.goOn();
            }
            return plain.allUp();
        }
    }

    /** A plain law at work on a ring, for all seats at once by bits. */
    private static final class Plain {
        private Ring ring;
        private boolean looksLeft;
        private boolean looksRight;
        private int sight;
        private int need;
        private int up;
        private int rest;
        private long up1;
        private long up2;
        private long up3;
        private long rest1;
        private long rest2;
        private long rest3;

        Plain(Ring ring) {
            this.ring = ring;
        }

        void take(int law, Ring where) {
            ring = where;
            rest = law % 4;
            up = law / 4 % 3 + 1;
            need = law / 12 % 3 + 1;
            sight = where.sightOf(law / 36 % 3 + 1);
            int side = law / 108;
            looksLeft = side != 1;
            looksRight = side != 0;
        }

        void begin(long those) {
            up1 = those;
            up2 = 0;
            up3 = 0;
            rest1 = 0;
            rest2 = 0;
            rest3 = 0;
        }

        long allUp() {
            return up1 | up2 | up3;
        }

        void goOn() {
            long awake = allUp() | rest1 | rest2 | rest3;
            long rising = thoseWhoSee() & ~(awake | ring.gaps | ring.dear);
            long leaving = up == 1 ? up1 : up == 2 ? up2 : up3;
            rest3 = rest > 2 ? rest2 : 0;
            rest2 = rest > 1 ? rest1 : 0;
            rest1 = rest > 0 ? leaving : 0;
            up3 = up > 2 ? up2 : 0;
            up2 = up > 1 ? up1 : 0;
            up1 = rising;
        }

        /** The seats by which no fewer than need are seen to be up for the first tenth. */
        private long thoseWhoSee() {
            long seeOne = 0;
            long seeTwo = 0;
            long seeThree = 0;
            for (int i = 0; i < 2 * sight; i++) {
                int far = i / 2 + 1;
                boolean onLeft = i % 2 == 0;
                if (onLeft ? looksLeft : looksRight) {
                    long here = ring.turned(up1, onLeft ? far : ring.seats - far);
                    seeThree |= seeTwo & here;
                    seeTwo |= seeOne & here;
                    seeOne |= here;
                }
            }
            return need == 1 ? seeOne : need == 2 ? seeTwo : seeThree;
        }
    }
}
