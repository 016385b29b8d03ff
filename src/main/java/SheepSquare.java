/** A town that is counted to sleep; what it promises stands in the document, DOC.md. */
public final class SheepSquare {
    public static final int NONE = -1000000, BAD = -1000001, STATE = -1000002, FULL = -1000003;

    private static final int FOUND = -1000010, FAULTED = -1000100;
    private static final int NULL = 1, PLACE = 2, KIND = 3, SIZE = 4, STORE = 5;
    private static final int AHEAD = 99, LAST_STEP = 9999, STEPS_A_CALL = 24, MOST_TOLD = 16;
    private static final int WINDS = 10, OF_TEN = 10, IMAGES = 2, ASKS = 2, EVERYBODY = 31;
    private static final int SHEEP_ROOM = 6, SLEEPER_ROOM = 5;
    private static final int SLEEPER = 0, PLAIN = 1, DEEP = 2, TEA = 3, NERVOUS = 4, LIGHT = 5;
    /** Of each KIND the one that it is, too; SLEEPER ends the chain. */
    private static final int[] ALSO = {SLEEPER, SLEEPER, PLAIN, PLAIN, SLEEPER, NERVOUS};

    private final Rows rows = new Rows();
    private final Reader reader = new Reader();
    private final Square now = new Square();
    private final Square firstImage = new Square();
    private final Square secondImage = new Square();
    private final Acts acts = new Acts();
    private final Foretold foretold = new Foretold();
    private final Asked asked = new Asked();
    private int finding = 0;

    public SheepSquare() {
    }

    // ---- rows

    public int row(int row, int lane, int n) {
        if (noRow(row) || lane < 0 || lane >= Rows.LANES || n > Rows.LONGEST) return BAD;
        if (n < 0) return found(SIZE);
        rows.make(row, lane, n);
        return fine(n);
    }

    public int set(int row, int i, int v) {
        if (noRow(row)) return BAD;
        if (rows.isGone(row)) return found(NULL);
        if (rows.lacks(row, i, 1)) return found(PLACE);
        return fine(rows.put(row, i, v));
    }

    public int copy(int a, int i, int b, int j, int n) {
        if (noRow(a) || noRow(b)) return BAD;
        if (rows.isGone(a) || rows.isGone(b)) return found(NULL);
        if (rows.lane[a] != rows.lane[b]) return found(STORE);
        if (rows.lacks(a, i, n) || rows.lacks(b, j, n)) return found(PLACE);
        rows.move(a, i, b, j, n);
        return fine(n);
    }

    public int drop(int row) {
        if (noRow(row)) return BAD;
        if (rows.isGone(row)) return found(NULL);
        return fine(rows.lose(row));
    }

    // ---- squares, acts

    public int feed(int letter) {
        if (letter < 0 || letter > 255) return BAD;
        if (reader.bytes >= Reader.LONGEST) return FULL;
        reader.append(letter);
        return reader.bytes;
    }

    public int square() {
        Square told = foretold.trial;
        if (!reader.reads(told)) return FAULTED - reader.faultPlace;
        now.become(told);
        acts.forget();
        return now.sleepers;
    }

    public int fault() {
        return reader.latestFault;
    }

    public int steps(int n) {
        if (noSquare()) return STATE;
        if (n < 1 || n > STEPS_A_CALL) return BAD;
        if (now.step > LAST_STEP - n) return FULL;
        for (int i = 0; i < n; i++) {
            acts.keep(now);
            now.goOn(EVERYBODY);
        }
        return now.off;
    }

    public int change(int place) {
        if (place < 0 || place >= now.sheep) return BAD;
        if (place == now.sheep - 1) return STATE;
        acts.keep(now);
        now.swap(place, place + 1);
        return now.row[place];
    }

    public int wind(int v) {
        if (noSquare()) return STATE;
        if (v < 0 || v >= WINDS) return BAD;
        acts.keep(now);
        int before = now.wind;
        now.wind = v;
        return before;
    }

    public int cough(int sleeper) {
        if (noSleeper(sleeper)) return BAD;
        acts.keep(now);
        int before = now.counted[sleeper];
        now.startAnew(sleeper);
        now.wake(sleeper);
        return before;
    }

    public int undo() {
        if (acts.kept == 0) return STATE;
        acts.takeBack(now);
        return acts.kept;
    }

    public int sleeper(int sleeper, int what) {
        if (noSleeper(sleeper)) return BAD;
        switch (what) {
            case 0: return now.needs[sleeper];
            case 1: return now.side[sleeper];
            case 2: return now.counted[sleeper];
            case 3: return now.isOff(sleeper) ? 1 : 0;
            case 4: return now.heardBy(sleeper);
            default: return BAD;
        }
    }

    public int sheep(int sheep, int what) {
        if (sheep < 0 || sheep >= now.sheep) return BAD;
        switch (what) {
            case 0: return now.loud[sheep];
            case 1: return now.coat[sheep];
            case 2: return now.placeOf(sheep);
            default: return BAD;
        }
    }

    // ---- foretold

    public int off(int d) {
        if (noSquare()) return STATE;
        if (tooFar(d)) return BAD;
        foretold.begin(now);
        foretold.goFar(d, EVERYBODY);
        return foretold.trial.off;
    }

    public int counted(int sleeper, int d) {
        if (noSleeper(sleeper) || tooFar(d)) return BAD;
        foretold.begin(now);
        foretold.goFar(d, 1 << sleeper);
        return foretold.trial.counted[sleeper];
    }

    public int when(int sleeper) {
        if (noSleeper(sleeper)) return BAD;
        foretold.begin(now);
        return foretold.soonest(1 << sleeper, AHEAD);
    }

    public int all(int sleepers) {
        if (noSquare()) return STATE;
        if (noSleepers(sleepers)) return BAD;
        foretold.begin(now);
        return foretold.soonest(sleepers, AHEAD);
    }

    public int never() {
        if (noSquare()) return STATE;
        foretold.begin(now);
        return foretold.sleepless();
    }

    public int quiet(int m) {
        if (noSquare()) return STATE;
        if (m < 0 || m > SLEEPER_ROOM) return BAD;
        foretold.begin(now);
        return foretold.calm(m);
    }

    public int order(int sleepers, int k) {
        if (noSquare()) return STATE;
        if (noSleepers(sleepers) || k < -1 || k >= SHEEP_ROOM) return BAD;
        int behind = foretold.bestOrder(now, sleepers);
        if (behind == NONE || k == -1) return behind;
        return k < now.sheep ? foretold.best[k] : NONE;
    }

    public int fewest(int sleepers, int d, int what) {
        if (noSquare()) return STATE;
        if (noSleepers(sleepers) || tooFar(d) || what < 0 || what > 1) return BAD;
        int flock = foretold.smallestFlock(now, sleepers, d);
        if (flock == NONE || what == 1) return flock;
        return Integer.bitCount(flock);
    }

    public int missing(int row, int i, int n) {
        if (noSquare()) return STATE;
        if (noRow(row) || n < 1 || n > MOST_TOLD) return BAD;
        int why = unreadable(row, i, n);
        if (why != 0) return found(why);
        return fine(foretold.strays(now, rows, rows.placeOf(row, i), n));
    }

    public int windy(int row, int i, int n) {
        if (noSquare()) return STATE;
        if (noRow(row) || n < 1 || n > MOST_TOLD) return BAD;
        int why = unreadable(row, i, n);
        if (why != 0) return found(why);
        return fine(foretold.winds(now, rows, rows.placeOf(row, i), n));
    }

    public int sorts(int sleeper, int row, int i, int n) {
        if (noSleeper(sleeper) || noRow(row) || n < 1 || n > MOST_TOLD) return BAD;
        int why = unreadable(row, i, n);
        if (why != 0) return found(why);
        return fine(foretold.kinds(now, sleeper, rows, rows.placeOf(row, i), n));
    }

    public int stay(int sleeper, int d, int c, int what) {
        if (noSleeper(sleeper) || tooFar(d) || c < 0 || c > OF_TEN || what < 0 || what > 1) return BAD;
        int above = foretold.chance(now, sleeper, d, c);
        int below = 1;
        for (int i = 1; i < now.sheep; i++) below *= OF_TEN;
        int shared = greatestShared(above, below);
        if (shared < 1) return BAD;
        return (what == 0 ? above : below) / shared;
    }

    public int image(int k) {
        if (k < 0 || k >= IMAGES) return BAD;
        if (noSquare()) return STATE;
        imageOf(k).become(now);
        return 1;
    }

    public int restore(int k) {
        if (k < 0 || k >= IMAGES) return BAD;
        if (imageOf(k).sheep == 0) return STATE;
        now.become(imageOf(k));
        acts.forget();
        return 1;
    }

    // ---- asked

    public int kind(int sleeper) {
        if (noSleeper(sleeper)) return BAD;
        return now.kind[sleeper];
    }

    public int as(int sleeper, int kind) {
        if (noSleeper(sleeper) || kind < SLEEPER || kind > LIGHT) return BAD;
        if (!isOne(now.kind[sleeper], kind)) return found(KIND);
        return fine(sleeper);
    }

    public int ask(int sleeper, int what) {
        if (noSleeper(sleeper) || what < 0 || what >= ASKS) return BAD;
        return asked.begin(now, sleeper, what);
    }

    public int trace(int i) {
        if (i < 0 || i >= asked.left) return NONE;
        return asked.trace[i];
    }

    public int count(int what) {
        switch (what) {
            case 0: return rows.howMany();
            case 1: return now.sheep;
            case 2: return now.sleepers;
            case 3: return now.step;
            case 4: return now.wind;
            case 5: return Integer.bitCount(now.off);
            case 6: return acts.kept;
            case 7: return reader.bytes;
            default: return BAD;
        }
    }

    public int status() {
        return finding;
    }

    // ---- what the calls share

    private int found(int number) {
        finding = number;
        return FOUND - number;
    }

    private int fine(int answer) {
        finding = 0;
        return answer;
    }

    private boolean noSquare() {
        return now.sheep == 0;
    }

    private boolean noRow(int row) {
        return row < 0 || row >= Rows.ROOM;
    }

    private boolean noSleeper(int sleeper) {
        return sleeper < 0 || sleeper >= now.sleepers;
    }

    private boolean noSleepers(int sleepers) {
        return sleepers < 0 || sleepers >= 1 << now.sleepers;
    }

    private boolean tooFar(int d) {
        return d < 0 || d > AHEAD;
    }

    private int unreadable(int row, int i, int n) {
        if (rows.isGone(row)) return NULL;
        return rows.lacks(row, i, n) ? PLACE : 0;
    }

    private Square imageOf(int k) {
        return k == 0 ? firstImage : secondImage;
    }

    private static boolean isOne(int kind, int asked) {
        int at = kind;
        for (int i = 0; i < ALSO.length && at != SLEEPER; i++) {
            if (at == asked) return true;
            at = ALSO[at];
        }
        return asked == SLEEPER;
    }

    private static int greatestShared(int a, int b) {
        int high = b, low = a;
        for (int i = 0; i < 64 && low > 0; i++) {
            int rest = high % low;
            high = low;
            low = rest;
        }
        return high;
    }

    /** The ROWS; all ITEMS are ints that hold only what their LANE can. */
    private static final class Rows {
        static final int ROOM = 8, LANES = 3, LONGEST = 40, GONE = -1;

        final int[] lane = new int[ROOM];
        final int[] size = {GONE, GONE, GONE, GONE, GONE, GONE, GONE, GONE};
        final int[] items = new int[ROOM * LONGEST];

        boolean isGone(int row) {
            return size[row] == GONE;
        }

        /** Written so that no sum can wrap around. */
        boolean lacks(int row, int i, int n) {
            return i < 0 || n < 0 || n > size[row] || i > size[row] - n;
        }

        int placeOf(int row, int i) {
            return row * LONGEST + i;
        }

        void make(int row, int newLane, int n) {
            lane[row] = newLane;
            size[row] = n;
            for (int i = 0; i < n; i++) items[placeOf(row, i)] = 0;
        }

        int put(int row, int i, int v) {
            int cut = lane[row] == 0 ? (byte) v : lane[row] == 1 ? (short) v : v;
            items[placeOf(row, i)] = cut;
            return cut;
        }

        void move(int a, int i, int b, int j, int n) {
            System.arraycopy(items, placeOf(a, i), items, placeOf(b, j), n);
        }

        int lose(int row) {
            int had = size[row];
            size[row] = GONE;
            return had;
        }

        int howMany() {
            int many = 0;
            for (int row = 0; row < ROOM; row++) if (!isGone(row)) many++;
            return many;
        }
    }

    /** The tape and the reading of it; behind the first FAULT nothing more is read. */
    private static final class Reader {
        static final int LONGEST = 100;
        static final int END = -1, NUMBER = -2, NO_TOKEN = -3;
        static final int MISPLACED = 1, NOT_AS_TOLD = 2, NO_ROOM = 3;

        final int[] tape = new int[LONGEST];
        int bytes = 0;
        int latestFault = 0;
        int faultPlace = 0;
        private boolean faulty = false;
        private int at = 0;
        /** The TOKEN that is looked at: its first byte, what it is (all but NUMBERS: the byte itself), its value. */
        private int start = 0;
        private int token = END;
        private int value = 0;

        void append(int letter) {
            if (bytes < LONGEST) tape[bytes++] = letter;
        }

        boolean reads(Square into) {
            into.clear();
            faulty = false;
            at = 0;
            look();
            readLaw(into);
            readFlock(into);
            readSleepers(into);
            if (token != END) blame(MISPLACED);
            bytes = 0;
            return !faulty;
        }

        private void readLaw(Square into) {
            take('q');
            into.wind = takeNumber(0, WINDS - 1);
            take(';');
        }

        private void readFlock(Square into) {
            if (token != 'f') blame(MISPLACED);
            for (int i = 0; i <= SHEEP_ROOM && !faulty && token == 'f'; i++) {
                if (into.sheep == SHEEP_ROOM) blame(NO_ROOM);
                else readSheep(into, into.sheep);
            }
        }

        private void readSheep(Square into, int sheep) {
            take('f');
            into.loud[sheep] = takeNumber(0, 9);
            take(',');
            into.coat[sheep] = takeNumber(0, 3);
            take(';');
            into.row[sheep] = sheep;
            into.sheep++;
        }

        private void readSleepers(Square into) {
            for (int i = 0; i <= SLEEPER_ROOM && !faulty && kindOf(token) != SLEEPER; i++) {
                if (into.sleepers == SLEEPER_ROOM) blame(NO_ROOM);
                else readSleeper(into, into.sleepers);
            }
        }

        private void readSleeper(Square into, int sleeper) {
            into.kind[sleeper] = kindOf(token);
            look();
            into.needs[sleeper] = takeNumber(1, 60);
            take(',');
            into.side[sleeper] = takeNumber(0, 1);
            take(';');
            into.sleepers++;
        }

        /** The KIND that a SORT's letter tells; SLEEPER, which no text tells, for all else. */
        private static int kindOf(int letter) {
            switch (letter) {
                case 'p': return PLAIN;
                case 'd': return DEEP;
                case 't': return TEA;
                case 'n': return NERVOUS;
                case 'l': return LIGHT;
                default: return SLEEPER;
            }
        }

        private void take(int due) {
            if (token != due) blame(MISPLACED);
            if (!faulty) look();
        }

        private int takeNumber(int least, int most) {
            if (token != NUMBER) blame(MISPLACED);
            else if (value < least || value > most) blame(NOT_AS_TOLD);
            int told = value;
            if (!faulty) look();
            return told;
        }

        private void blame(int fault) {
            if (faulty) return;
            faulty = true;
            latestFault = fault;
            faultPlace = start;
        }

        private void look() {
            start = at;
            if (at >= bytes) {
                token = END;
            } else if (isFigure(tape[at])) {
                lookAtNumber();
            } else {
                token = tape[at++];
            }
        }

        private void lookAtNumber() {
            value = 0;
            for (int i = 0; i < LONGEST && at < bytes && isFigure(tape[at]); i++) {
                if (i < 2) value = value * 10 + tape[at] - '0';
                at++;
            }
            token = at - start > 2 ? NO_TOKEN : NUMBER;
        }

        private static boolean isFigure(int b) {
            return b >= '0' && b <= '9';
        }
    }

    /** A SQUARE at one moment. There is none if it has no sheep; in a trial the sheep that are away are left out of the row. */
    private static final class Square {
        static final int MOST_COUNTED = 99, WITH_BELL = 2;

        int sheep = 0;
        int sleepers = 0;
        int step = 0;
        int wind = 0;
        int off = 0;
        final int[] loud = new int[SHEEP_ROOM];
        final int[] coat = new int[SHEEP_ROOM];
        final int[] row = new int[SHEEP_ROOM];
        final int[] kind = new int[SLEEPER_ROOM];
        final int[] needs = new int[SLEEPER_ROOM];
        final int[] side = new int[SLEEPER_ROOM];
        final int[] counted = new int[SLEEPER_ROOM];

        void clear() {
            sheep = 0;
            sleepers = 0;
            step = 0;
            wind = 0;
            off = 0;
            for (int s = 0; s < SLEEPER_ROOM; s++) counted[s] = 0;
        }

        void become(Square other) {
            sheep = other.sheep;
            sleepers = other.sleepers;
            wind = other.wind;
            System.arraycopy(other.loud, 0, loud, 0, SHEEP_ROOM);
            System.arraycopy(other.coat, 0, coat, 0, SHEEP_ROOM);
            System.arraycopy(other.row, 0, row, 0, SHEEP_ROOM);
            System.arraycopy(other.kind, 0, kind, 0, SLEEPER_ROOM);
            System.arraycopy(other.needs, 0, needs, 0, SLEEPER_ROOM);
            System.arraycopy(other.side, 0, side, 0, SLEEPER_ROOM);
            goBackTo(other);
        }

        /** Takes over only what STEPS change, so that a trial can be run again from the same moment. */
        void goBackTo(Square other) {
            step = other.step;
            off = other.off;
            System.arraycopy(other.counted, 0, counted, 0, SLEEPER_ROOM);
        }

        boolean isOff(int sleeper) {
            return (off >> sleeper & 1) != 0;
        }

        void wake(int sleeper) {
            off &= ~(1 << sleeper);
        }

        void startAnew(int sleeper) {
            counted[sleeper] = 0;
        }

        boolean hears(int sleeper, int which) {
            return side[sleeper] == 0 || loud[which] > wind;
        }

        int heardBy(int sleeper) {
            int heard = 0;
            for (int i = 0; i < sheep; i++) if (hears(sleeper, i)) heard |= 1 << i;
            return heard;
        }

        int placeOf(int which) {
            for (int place = 0; place < sheep; place++) if (row[place] == which) return place;
            return NONE;
        }

        void swap(int a, int b) {
            int kept = row[a];
            row[a] = row[b];
            row[b] = kept;
        }

        /** A STEP of which only the told sleepers take notice. */
        void goOn(int who) {
            if (sheep < 1) return;
            int passing = row[step % sheep];
            step++;
            for (int s = 0; s < sleepers; s++) {
                if ((who >> s & 1) == 0) continue;
                if (hears(s, passing)) hear(s, coat[passing]);
                if (counted[s] >= needs[s]) off |= 1 << s;
            }
        }

        private void hear(int s, int itsCoat) {
            boolean bell = itsCoat >= WITH_BELL;
            boolean white = (itsCoat & 1) == 0;
            switch (kind[s]) {
                case DEEP:
                    countMore(s, white ? 2 : 1);
                    break;
                case TEA:
                    if (!bell) countMore(s, 1);
                    break;
                case NERVOUS:
                    if (bell) startAnew(s);
                    else countMore(s, 1);
                    break;
                case LIGHT:
                    if (bell) {
                        startAnew(s);
                        wake(s);
                    } else countMore(s, 1);
                    break;
                default:
                    countMore(s, 1);
            }
        }

        private void countMore(int s, int more) {
            counted[s] = Math.min(MOST_COUNTED, counted[s] + more);
        }

        /** All of told sleepers that can still matter for who is OFF: of one whom no bell wakes, only that he is. */
        long whatMatters(int who) {
            long matters = 0;
            for (int s = 0; s < sleepers; s++) {
                if ((who >> s & 1) == 0) continue;
                int one = counted[s];
                if (isOff(s)) one = kind[s] == LIGHT ? one + 128 : 255;
                matters = matters << 8 | one;
            }
            return matters;
        }

        /** Leaves only the told sheep in the row, in the order that another has them. */
        void keepOnly(int flock, Square other) {
            sheep = 0;
            for (int place = 0; place < other.sheep; place++) {
                int one = other.row[place];
                if ((flock >> one & 1) != 0) row[sheep++] = one;
            }
        }

        void lineUp() {
            for (int place = 0; place < sheep; place++) row[place] = place;
        }

        /** The next order of the row by numbers; false if this was the last. */
        boolean orderNext() {
            int fall = sheep - 2;
            while (fall >= 0 && row[fall] > row[fall + 1]) fall--;
            if (fall < 0) return false;
            int above = sheep - 1;
            while (above > fall && row[above] < row[fall]) above--;
            swap(fall, above);
            int left = fall + 1, right = sheep - 1;
            while (left < right) swap(left++, right--);
            return true;
        }
    }

    /** What the latest ACTS changed, as it was ahead of each, in a ring. */
    private static final class Acts {
        static final int MOST = 24;

        int kept = 0;
        private int next = 0;
        private final int[] step = new int[MOST];
        private final int[] wind = new int[MOST];
        private final int[] off = new int[MOST];
        private final int[] counted = new int[MOST * SLEEPER_ROOM];
        private final int[] row = new int[MOST * SHEEP_ROOM];

        void keep(Square square) {
            step[next] = square.step;
            wind[next] = square.wind;
            off[next] = square.off;
            System.arraycopy(square.counted, 0, counted, next * SLEEPER_ROOM, SLEEPER_ROOM);
            System.arraycopy(square.row, 0, row, next * SHEEP_ROOM, SHEEP_ROOM);
            next = (next + 1) % MOST;
            kept = Math.min(MOST, kept + 1);
        }

        void takeBack(Square square) {
            if (kept == 0) return;
            kept--;
            next = (next + MOST - 1) % MOST;
            square.step = step[next];
            square.wind = wind[next];
            square.off = off[next];
            System.arraycopy(counted, next * SLEEPER_ROOM, square.counted, 0, SLEEPER_ROOM);
            System.arraycopy(row, next * SHEEP_ROOM, square.row, 0, SHEEP_ROOM);
        }

        void forget() {
            kept = 0;
        }
    }

    /** What would be: a trial of the SQUARE that goes ahead in its place. */
    private static final class Foretold {
        static final int ORDERS = 720, CALM_STEPS = 6;

        final Square trial = new Square();
        final int[] best = new int[SHEEP_ROOM];

        void begin(Square now) {
            trial.become(now);
        }

        void goFar(int d, int who) {
            for (int t = 0; t < d; t++) trial.goOn(who);
        }

        /** Ends early where a whole round has left all that matters as it was: each round is the same then. */
        int soonest(int who, int latest) {
            if (trial.sheep < 1) return NONE;
            long lastRound = -1;
            for (int t = 0; t <= latest; t++) {
                if ((trial.off & who) == who) return t;
                if (t % trial.sheep == 0) {
                    long thisRound = trial.whatMatters(who);
                    if (thisRound == lastRound) return NONE;
                    lastRound = thisRound;
                }
                trial.goOn(who);
            }
            return NONE;
        }

        int sleepless() {
            int everOff = trial.off;
            for (int t = 1; t <= AHEAD; t++) {
                trial.goOn(EVERYBODY);
                everOff |= trial.off;
            }
            return (1 << trial.sleepers) - 1 & ~everOff;
        }

        int calm(int m) {
            int inARow = 0;
            for (int t = 0; t <= AHEAD + CALM_STEPS; t++) {
                inARow = Integer.bitCount(trial.off) >= m ? inARow + 1 : 0;
                if (inARow > CALM_STEPS) return t - CALM_STEPS;
                trial.goOn(EVERYBODY);
            }
            return NONE;
        }

        /** Leaves the order in best; an order by which it is no sooner than by an earlier one is of no use. */
        int bestOrder(Square now, int who) {
            int behind = NONE, latest = AHEAD;
            begin(now);
            trial.lineUp();
            for (int i = 0; i < ORDERS && latest >= 0; i++) {
                trial.goBackTo(now);
                int t = soonest(who, latest);
                if (t != NONE) {
                    behind = t;
                    latest = t - 1;
                    System.arraycopy(trial.row, 0, best, 0, SHEEP_ROOM);
                }
                if (!trial.orderNext()) break;
            }
            return behind;
        }

        int smallestFlock(Square now, int who, int d) {
            int smallest = NONE, size = SHEEP_ROOM + 1;
            begin(now);
            for (int flock = 1; flock < 1 << now.sheep; flock++) {
                if (Integer.bitCount(flock) >= size) continue;
                trial.goBackTo(now);
                trial.keepOnly(flock, now);
                if (soonest(who, d) == NONE) continue;
                smallest = flock;
                size = Integer.bitCount(flock);
            }
            return smallest;
        }

        int strays(Square now, Rows rows, int from, int n) {
            if (now.sheep < 2) return 0;
            int strays = 0;
            int whole = (1 << now.sheep) - 1;
            begin(now);
            for (int away = 0; away < now.sheep; away++) {
                trial.goBackTo(now);
                trial.keepOnly(whole & ~(1 << away), now);
                if (goesSo(rows, from, n)) strays |= 1 << away;
            }
            return strays;
        }

        int winds(Square now, Rows rows, int from, int n) {
            int winds = 0;
            begin(now);
            for (int wind = 0; wind < WINDS; wind++) {
                trial.goBackTo(now);
                trial.wind = wind;
                if (goesSo(rows, from, n)) winds |= 1 << wind;
            }
            return winds;
        }

        int kinds(Square now, int sleeper, Rows rows, int from, int n) {
            int kinds = 0;
            begin(now);
            for (int kind = PLAIN; kind <= LIGHT; kind++) {
                trial.goBackTo(now);
                trial.kind[sleeper] = kind;
                if (goesSo(rows, from, n)) kinds |= 1 << kind;
            }
            return kinds;
        }

        private boolean goesSo(Rows rows, int from, int n) {
            for (int t = 0; t < n; t++) {
                trial.goOn(EVERYBODY);
                if (Integer.bitCount(trial.off) != rows.items[from + t]) return false;
            }
            return true;
        }

        /** The part above a fraction whose part below is 10 for each sheep that may stay away. */
        int chance(Square now, int sleeper, int d, int c) {
            int first = now.row[0];
            int above = 0;
            begin(now);
            for (int flock = 1; flock < 1 << now.sheep; flock++) {
                if ((flock >> first & 1) == 0) continue;
                trial.goBackTo(now);
                trial.keepOnly(flock, now);
                goFar(d, 1 << sleeper);
                if (trial.isOff(sleeper)) above += weight(flock, now.sheep, first, c);
            }
            return above;
        }

        private static int weight(int flock, int sheep, int first, int c) {
            int weight = 1;
            for (int i = 0; i < sheep; i++) {
                if (i != first) weight *= (flock >> i & 1) == 0 ? c : OF_TEN - c;
            }
            return weight;
        }
    }

    /** ASKS of one SLEEPER, and THE TRACE of the latest. */
    private static final class Asked {
        static final int ASK_SIZE = 0, ASK_MARK = 1, DEEPEST = 12;
        /** The BODY of each KIND for an ask; 0: it has none of its own. */
        static final int[] SIZES = {10, 11, 12, 0, 13, 14};
        static final int[] MARKS = {20, 21, 24, 22, 23, 0};

        final int[] trace = new int[16];
        int left = 0;
        private int number = 0;
        private int kind = SLEEPER;
        private int needs = 0;
        private int counted = 0;

        int begin(Square now, int sleeper, int what) {
            left = 0;
            number = sleeper;
            kind = now.kind[sleeper];
            needs = now.needs[sleeper];
            counted = now.counted[sleeper];
            return answer(what, 0);
        }

        private int answer(int what, int depth) {
            return give(bodyFor(what), depth + 1);
        }

        private int bodyFor(int what) {
            int[] bodies = what == ASK_SIZE ? SIZES : MARKS;
            int at = kind;
            for (int i = 0; i < ALSO.length && bodies[at] == 0; i++) at = ALSO[at];
            return bodies[at];
        }

        private int give(int body, int depth) {
            if (depth > DEEPEST) return 0;
            if (left < trace.length) trace[left++] = body;
            switch (body) {
                case 10: return needs;
                case 11: return give(10, depth + 1) + answer(ASK_MARK, depth + 1);
                case 12: return -give(11, depth + 1);
                case 13: return give(10, depth + 1) - 100;
                case 14: return 2 * give(13, depth + 1);
                case 20: return number;
                case 21: return give(20, depth + 1) + counted;
                case 22: return give(21, depth + 1) - 1000;
                case 23: return give(20, depth + 1) - answer(ASK_SIZE, depth + 1);
                case 24: return 2 * give(21, depth + 1);
                default: return 0;
            }
        }
    }
}
