import java.util.NoSuchElementException;

/**
 * Flogging the glass: a voyage is told as a text, and the object answers what is stolen, where the
 * ship is and is thought to be, and what could be done about it.
 */
public final class GlassWatch {
    /** There is none; refused. */
    public static final int NONE = -1;

    private static final int BY_NONE = -2;
    private static final int NO_PLACE = -1000000;
    private static final int NO_SHARE = -100;

    private static final int NOT_REFUSED = 0;
    private static final int NONE_SUCH = 1;
    private static final int A_NUMBER = 2;
    private static final int NO_ROOM = 3;
    private static final int A_FAULT = 4;
    private static final int NOT_SO = 5;
    private static final int NONE_LEFT = 6;

    private static final int TAPE_ROOM = 900;
    private static final int FED_AT_ONCE = 20;

    private static final int MOST_BOYS = 5;
    private static final int MOST_OFFICERS = 4;
    private static final int MOST_WATCHES = 12;
    private static final int MOST_NOONS = 4;
    private static final int MOST_SHOALS = 6;
    private static final int MOST_UNSURE = 4;
    private static final int MOST_FOUND = 3;
    private static final int MOST_SETS = 1 << MOST_UNSURE;
    private static final int MOST_IMAGES = 3;
    private static final int MOST_ACTS = 16;

    private static final int HONEST = 0;
    private static final int SLY = 1;
    private static final int BOLD = 2;

    private static final int NORTH = 0;
    private static final int EAST = 1;
    private static final int SOUTH = 2;
    private static final int WEST = 3;
    private static final int COURSES = 4;

    private static final int GLASSES = 8;
    private static final int ALL_GLASSES = 255;
    private static final int WATCH_MINUTES = 240;
    private static final int SQUARE_WIDTH = 100;

    // The columns of the tables of a voyage.
    private static final int BOY_KIND = 0;
    private static final int BOY_EARLY = 1;
    private static final int OFFICER_EVERY = 0;
    private static final int OFFICER_LOOKS = 1;
    private static final int WATCH_BOY = 0;
    private static final int WATCH_OFFICER = 1;
    private static final int WATCH_COURSE = 2;
    private static final int WATCH_SPEED = 3;
    private static final int NOON_AFTER = 0;
    private static final int SHOAL_SQUARE = 0;
    private static final int UNSURE_BOY = 0;
    private static final int UNSURE_EARLY = 1;
    private static final int FOUND_AFTER = 0;
    private static final int FOUND_SQUARE = 1;

    // The columns of what can be changed of a watch.
    private static final int KEPT_BOY = 0;
    private static final int KEPT_COURSE = 1;
    private static final int KEPT_ATTENDED = 2;

    private static final int MOST_MINUTES = 999;
    private static final int MOST_APART = 30000;
    private static final int MOST_PORT = 9;
    private static final int SEEDS = 65537;
    private static final int MOST_VOYAGES = 20;

    private final byte[] tape;
    private final Reader reader;
    private final Keeping now;
    private final Keeping[] images;
    private final Acts acts;
    private final Reckoner reckoner;
    private final Attending attending;
    private final Doubts doubts;
    private final Clouds clouds;
    private Voyage told;
    private Voyage draft;
    private boolean underWay;
    private int taped;
    private int imaged;
    private int refusal;

    public GlassWatch() {
        tape = new byte[TAPE_ROOM];
        told = new Voyage();
        draft = new Voyage();
        reader = new Reader(tape, draft);
        now = new Keeping();
        images = new Keeping[MOST_IMAGES];
        for (int i = 0; i < images.length; i++) {
            images[i] = new Keeping();
        }
        acts = new Acts();
        reckoner = new Reckoner(told);
        attending = new Attending(reckoner);
        doubts = new Doubts(reckoner);
        clouds = new Clouds(reckoner);
    }

    // ---- the voyage

    public int feed(int a, int b, int c, int d, int e) {
        if (taped + FED_AT_ONCE > TAPE_ROOM) {
            return NONE;
        }
        putOnTape(a);
        putOnTape(b);
        putOnTape(c);
        putOnTape(d);
        putOnTape(e);
        return taped;
    }

    public int voyage(int n) {
        if (isRefused(n < 0 || n > taped ? A_NUMBER : NOT_REFUSED)) {
            return NONE;
        }
        taped = 0;
        reader.read(n, draft);
        if (isRefused(reader.faultNumber == 0 ? NOT_REFUSED : A_FAULT)) {
            return NONE;
        }
        beginDraft();
        return told.watches.count;
    }

    public int fault() {
        return reader.faultNumber;
    }

    public int where() {
        return refusal == A_FAULT ? reader.faultPlace : NONE;
    }

    // ---- now

    public int watch(int k, int what) {
        if (isRefused(hasWatch(k) && what >= 0 && what <= 5 ? NOT_REFUSED : NONE_SUCH)) {
            return NONE;
        }
        switch (what) {
            case 0: return now.watches.cell(k, KEPT_BOY);
            case 1: return told.watches.cell(k, WATCH_OFFICER);
            case 2: return now.watches.cell(k, KEPT_COURSE);
            case 3: return told.watches.cell(k, WATCH_SPEED);
            case 4: return now.watches.cell(k, KEPT_ATTENDED);
            default: return reckoner.looksIn(now, k);
        }
    }

    public int boy(int b, int what) {
        if (isRefused(hasBoy(b) && what >= 0 && what <= 3 ? NOT_REFUSED : NONE_SUCH)) {
            return NONE;
        }
        switch (what) {
            case 0: return told.boys.cell(b, BOY_KIND);
            case 1: return told.boys.cell(b, BOY_EARLY);
            case 2: return watchesWith(now.watches, KEPT_BOY, b);
            default: return reckoner.stolenOf(now, b);
        }
    }

    public int officer(int f, int what) {
        boolean there = underWay && f >= 0 && f < told.officers.count;
        if (isRefused(there && (what == 0 || what == 1) ? NOT_REFUSED : NONE_SUCH)) {
            return NONE;
        }
        return what == 0
            ? told.officers.cell(f, OFFICER_EVERY)
            : watchesWith(told.watches, WATCH_OFFICER, f);
    }

    public int glass(int k, int g) {
        if (isRefused(whyNot(hasWatch(k), g >= 1 && g <= GLASSES))) {
            return NONE;
        }
        return reckoner.turned(now, k, g);
    }

    public int stolen(int k) {
        if (isRefused(hasWatch(k) ? NOT_REFUSED : NONE_SUCH)) {
            return NONE;
        }
        return reckoner.stolenIn(now, k);
    }

    public int stolenBy(int n) {
        if (isRefused(whyNotAfter(n))) {
            return NONE;
        }
        reckoner.reckon(now);
        return reckoner.lostBy(n);
    }

    public int thief() {
        if (isRefused(whyNotUnderWay())) {
            return NONE;
        }
        int most = BY_NONE;
        int mostStolen = -1;
        for (int b = 0; b < told.boys.count; b++) {
            int his = reckoner.stolenOf(now, b);
            if (his > mostStolen) {
                most = b;
                mostStolen = his;
            }
        }
        return most;
    }

    public int lostWatch() {
        if (isRefused(whyNotUnderWay())) {
            return NONE;
        }
        int sum = 0;
        for (int k = 0; k < told.watches.count; k++) {
            sum += reckoner.stolenIn(now, k);
            if (sum >= WATCH_MINUTES) {
                return k;
            }
        }
        return BY_NONE;
    }

    // ---- where it is

    public int at(int n, boolean north) {
        if (isRefused(whyNotAfter(n))) {
            return NO_PLACE;
        }
        Ship ship = reckoner.sailFor(now, n);
        return north ? ship.north : ship.east;
    }

    public int thought(int n, boolean north) {
        if (isRefused(whyNotAfter(n))) {
            return NO_PLACE;
        }
        Ship ship = reckoner.sailFor(now, n);
        return north ? ship.thoughtNorth : ship.thoughtEast;
    }

    public int error(int n) {
        if (isRefused(whyNotAfter(n))) {
            return NONE;
        }
        return reckoner.sailFor(now, n).apart();
    }

    public int worst() {
        if (isRefused(whyNotUnderWay())) {
            return NONE;
        }
        int worst = 0;
        int farthest = 0;
        reckoner.reckon(now);
        for (int n = 0; n <= told.watches.count; n++) {
            reckoner.sail(now, Math.max(n - 1, 0), n);
            int apart = reckoner.ship.apart();
            if (apart > farthest) {
                worst = n;
                farthest = apart;
            }
        }
        return worst;
    }

    public int square(int n) {
        if (isRefused(whyNotAfter(n))) {
            return NONE;
        }
        return reckoner.sailFor(now, n).inSquare();
    }

    public int squareThought(int n) {
        if (isRefused(whyNotAfter(n))) {
            return NONE;
        }
        return reckoner.sailFor(now, n).thoughtInSquare();
    }

    public int strikes() {
        if (isRefused(whyNotUnderWay())) {
            return NONE;
        }
        reckoner.reckon(now);
        return reckoner.firstStrike(now, false);
    }

    public int feared() {
        if (isRefused(whyNotUnderWay())) {
            return NONE;
        }
        reckoner.reckon(now);
        return reckoner.firstStrike(now, true);
    }

    public int canBe(int n) {
        if (isRefused(whyNotAfter(n))) {
            return NONE;
        }
        return doubts.squaresAfter(now, n);
    }

    public int perils() {
        if (isRefused(whyNotUnderWay())) {
            return NONE;
        }
        return doubts.strikingSets(now);
    }

    // ---- looks, courses

    public int attendFor(int minutes) {
        if (isRefused(whyNot(underWay, minutes >= 0 && minutes <= MOST_MINUTES))) {
            return NONE;
        }
        return attending.fewestFor(now, minutes);
    }

    public int stolenIf(int watches) {
        if (isRefused(whyNot(underWay, watches >= 0 && watches < 1 << told.watches.count))) {
            return NONE;
        }
        return attending.stolenWith(now, watches);
    }

    public int lookFirst() {
        if (isRefused(whyNotUnderWay())) {
            return NONE;
        }
        return attending.bestOne(now);
    }

    public int change() {
        if (isRefused(whyNotUnderWay())) {
            return NONE;
        }
        for (int k = 0; k < told.watches.count; k++) {
            for (int course = 0; course < COURSES; course++) {
                if (doubts.isSafeBy(now, k, course)) {
                    return 10 * k + course;
                }
            }
        }
        return BY_NONE;
    }

    public int strikesIf(int k, int course) {
        if (isRefused(whyNot(hasWatch(k), isCourse(course)))) {
            return NONE;
        }
        Keeping trial = reckoner.trialOf(now);
        trial.watches.put(k, KEPT_COURSE, course);
        reckoner.reckon(trial);
        return reckoner.firstStrike(trial, false);
    }

    public int relief(int k) {
        if (isRefused(hasWatch(k) ? NOT_REFUSED : NONE_SUCH)) {
            return NONE;
        }
        Keeping trial = reckoner.trialOf(now);
        int best = NONE;
        int least = 0;
        for (int b = 0; b < told.boys.count; b++) {
            trial.watches.put(k, KEPT_BOY, b);
            int his = reckoner.stolenIn(trial, k);
            if (best == NONE || his < least) {
                best = b;
                least = his;
            }
        }
        return best;
    }

    // ---- unsure boys

    public int fits() {
        if (isRefused(whyNotUnderWay())) {
            return NONE;
        }
        return Integer.bitCount(doubts.fittingSets());
    }

    public int fitAt(int i) {
        int set = underWay ? doubts.fitOf(doubts.fittingSets(), i) : NONE;
        return isRefused(set == NONE ? NONE_SUCH : NOT_REFUSED) ? NONE : set;
    }

    public int could() {
        if (isRefused(whyNotUnderWay())) {
            return NONE;
        }
        return doubts.boysInSome(doubts.fittingSets());
    }

    public int surely() {
        if (isRefused(whyNotUnderWay())) {
            return NONE;
        }
        return doubts.boysInAll(doubts.fittingSets());
    }

    public int fix() {
        if (isRefused(whyNotUnderWay())) {
            return NONE;
        }
        return doubts.bestFix(doubts.fittingSets());
    }

    public int fixLeaves() {
        if (isRefused(whyNotUnderWay())) {
            return NONE;
        }
        int fitting = doubts.fittingSets();
        return fitting == 0 ? BY_NONE : doubts.mostLeft(fitting, doubts.bestFix(fitting));
    }

    public int judge() {
        if (isRefused(whyNotUnderWay())) {
            return NONE;
        }
        return doubts.firstMisfit(0);
    }

    // ---- noons by chance

    public long odds(int n, int much, boolean lower) {
        int why = whyNotAfter(n);
        boolean inBounds = much >= 0 && much <= MOST_APART;
        if (isRefused(why == NOT_REFUSED && !inBounds ? A_NUMBER : why)) {
            return NONE;
        }
        clouds.weighOdds(now, n, much);
        return lower ? clouds.lower : clouds.upper;
    }

    public long mean(int n, boolean lower) {
        if (isRefused(whyNotAfter(n))) {
            return NONE;
        }
        clouds.weighMean(now, n);
        return lower ? clouds.lower : clouds.upper;
    }

    public int dearest() {
        if (isRefused(whyNotUnderWay())) {
            return NONE;
        }
        return clouds.dearestNoon(now);
    }

    // ---- boys among each other

    public int steals(int port, boolean one, boolean other, boolean ofOther) {
        if (isRefused(whyNot(underWay, isPort(port)))) {
            return NO_SHARE;
        }
        return ofOther ? shareOf(port, other, one) : shareOf(port, one, other);
    }

    public int rests(int port) {
        if (isRefused(whyNot(underWay, isPort(port)))) {
            return NONE;
        }
        int count = 0;
        for (int pair = 0; pair < 4; pair++) {
            if (isRest(port, pair)) {
                count++;
            }
        }
        return count;
    }

    public int rest(int port) {
        if (isRefused(whyNot(underWay, isPort(port)))) {
            return NONE;
        }
        for (int pair = 0; pair < 4; pair++) {
            if (isRest(port, pair)) {
                return 10 * (pair >> 1) + (pair & 1);
            }
        }
        return BY_NONE;
    }

    // ---- idle boys by draws

    public int idled(int seed, int n) {
        if (isRefused(whyNotDrawn(seed, n, told.watches.count))) {
            return NONE;
        }
        reckoner.seed = seed;
        reckoner.drawIdle(now);
        return reckoner.lostBy(n);
    }

    public int squareBy(int seed, int n) {
        if (isRefused(whyNotDrawn(seed, n, told.watches.count))) {
            return NONE;
        }
        reckoner.seed = seed;
        reckoner.drawIdle(now);
        reckoner.sail(now, 0, n);
        return reckoner.ship.inSquare();
    }

    public int wrecks(int seed, int n) {
        if (isRefused(whyNotDrawn(seed, n, MOST_VOYAGES))) {
            return NONE;
        }
        int count = 0;
        reckoner.seed = seed;
        for (int i = 0; i < n; i++) {
            reckoner.drawIdle(now);
            if (reckoner.firstStrike(now, false) != BY_NONE) {
                count++;
            }
        }
        return count;
    }

    // ---- acts

    public int attend(int k) {
        if (isRefused(hasWatch(k) ? NOT_REFUSED : NONE_SUCH)) {
            return NONE;
        }
        int then = 1 - now.watches.cell(k, KEPT_ATTENDED);
        acts.make(now, k, KEPT_ATTENDED, then);
        return then;
    }

    public boolean steer(int k, int course) {
        int why = whyNot(hasWatch(k), isCourse(course));
        boolean already = now.watches.cell(k, KEPT_COURSE) == course;
        if (isRefused(why == NOT_REFUSED && already ? NOT_SO : why)) {
            return false;
        }
        acts.make(now, k, KEPT_COURSE, course);
        return true;
    }

    public int relieve(int k, int b) {
        boolean there = hasWatch(k) && hasBoy(b);
        boolean already = now.watches.cell(k, KEPT_BOY) == b;
        if (isRefused(!there ? NONE_SUCH : already ? NOT_SO : NOT_REFUSED)) {
            return NONE;
        }
        acts.make(now, k, KEPT_BOY, b);
        return reckoner.stolenIn(now, k);
    }

    public boolean undo() {
        if (isRefused(acts.kept == 0 ? NONE_LEFT : NOT_REFUSED)) {
            return false;
        }
        acts.takeBack(now);
        return true;
    }

    public int image() {
        Keeping free = imageOf(imaged);
        if (isRefused(!underWay ? NONE_SUCH : free == null ? NO_ROOM : NOT_REFUSED) || free == null) {
            return NONE;
        }
        free.copyFrom(now);
        imaged++;
        return imaged - 1;
    }

    public boolean back(int image) {
        Keeping kept = image < imaged ? imageOf(image) : null;
        if (isRefused(kept == null ? NONE_SUCH : NOT_REFUSED) || kept == null) {
            return false;
        }
        now.copyFrom(kept);
        acts.forget();
        return true;
    }

    // ---- what is told

    public int led(int i) throws NoSuchElementException {
        int left = i;
        for (int k = 0; underWay && left >= 0 && k < told.watches.count; k++) {
            if (reckoner.stolenIn(now, k) == 0) {
                if (left == 0) {
                    return k;
                }
                left--;
            }
        }
        throw new NoSuchElementException();
    }

    public int size(int what) {
        switch (what) {
            case 0: return told.clouds;
            case 1: return told.idle;
            case 2: return told.boys.count;
            case 3: return told.officers.count;
            case 4: return told.watches.count;
            case 5: return told.noons.count;
            case 6: return told.shoals.count;
            case 7: return told.unsure.count;
            case 8: return told.found.count;
            case 9: return acts.kept;
            case 10: return imaged;
            case 11: return taped;
            default: return NONE;
        }
    }

    public int trouble() {
        return refusal;
    }

    // ---- what the calls share

    private void putOnTape(int number) {
        for (int shift = 24; shift >= 0; shift -= 8) {
            if (taped >= 0 && taped < tape.length) {
                tape[taped] = (byte) (number >> shift);
                taped++;
            }
        }
    }

    // The draft and what was told change places, so that no call makes a new voyage.
    private void beginDraft() {
        Voyage former = told;
        told = draft;
        draft = former;
        underWay = true;
        reckoner.voyage = told;
        now.setAsTold(told);
        acts.forget();
        imaged = 0;
    }

    private Keeping imageOf(int i) {
        return i >= 0 && i < images.length ? images[i] : null;
    }

    private boolean isRefused(int why) {
        refusal = why;
        return why != NOT_REFUSED;
    }

    private static int whyNot(boolean there, boolean inBounds) {
        return !there ? NONE_SUCH : !inBounds ? A_NUMBER : NOT_REFUSED;
    }

    private int whyNotUnderWay() {
        return underWay ? NOT_REFUSED : NONE_SUCH;
    }

    private int whyNotAfter(int n) {
        return whyNot(underWay, n >= 0 && n <= told.watches.count);
    }

    private int whyNotDrawn(int seed, int n, int most) {
        return whyNot(underWay, seed >= 0 && seed < SEEDS && n >= 0 && n <= most);
    }

    private boolean hasWatch(int k) {
        return underWay && k >= 0 && k < told.watches.count;
    }

    private boolean hasBoy(int b) {
        return underWay && b >= 0 && b < told.boys.count;
    }

    private static boolean isCourse(int course) {
        return course >= 0 && course < COURSES;
    }

    private static boolean isPort(int port) {
        return port >= 0 && port <= MOST_PORT;
    }

    private int watchesWith(Table watches, int column, int value) {
        int bits = 0;
        for (int k = 0; k < told.watches.count; k++) {
            if (watches.cell(k, column) == value) {
                bits |= 1 << k;
            }
        }
        return bits;
    }

    private static int shareOf(int port, boolean he, boolean mate) {
        if (he) {
            return mate ? 3 - port : 2;
        }
        return mate ? -1 : 1;
    }

    // A pair is two bits, the one's the higher, so that counting up goes through pairs in their order.
    private static boolean isRest(int port, int pair) {
        boolean one = (pair & 2) != 0;
        boolean other = (pair & 1) != 0;
        return shareOf(port, one, other) >= shareOf(port, !one, other)
            && shareOf(port, other, one) >= shareOf(port, !other, one);
    }

    /** Rows of numbers; a cell that isn't there is 0 and can't be put. */
    private static final class Table {
        final int room;
        final int width;
        final int[] cells;
        int count;

        Table(int room, int width) {
            this.room = Math.max(room, 0);
            this.width = Math.max(width, 0);
            cells = new int[this.room * this.width];
        }

        int cell(int row, int column) {
            if (row < 0 || row >= room || column < 0 || column >= width) {
                return 0;
            }
            return cells[row * width + column];
        }

        void put(int row, int column, int value) {
            if (row < 0 || row >= room || column < 0 || column >= width) {
                return;
            }
            cells[row * width + column] = value;
        }

        boolean isFull() {
            return count >= room;
        }

        void add(int a, int b, int c, int d) {
            if (isFull()) {
                return;
            }
            put(count, 0, a);
            put(count, 1, b);
            put(count, 2, c);
            put(count, 3, d);
            count++;
        }

        boolean holds(int column, int value) {
            for (int row = 0; row < count; row++) {
                if (cell(row, column) == value) {
                    return true;
                }
            }
            return false;
        }

        void copyFrom(Table other) {
            count = other.count;
            for (int i = 0; i < cells.length && i < other.cells.length; i++) {
                cells[i] = other.cells[i];
            }
        }
    }

    /** What a text tells. */
    private static final class Voyage {
        final Table boys = new Table(MOST_BOYS, 2);
        final Table officers = new Table(MOST_OFFICERS, 2);
        final Table watches = new Table(MOST_WATCHES, 4);
        final Table noons = new Table(MOST_NOONS, 1);
        final Table shoals = new Table(MOST_SHOALS, 1);
        final Table unsure = new Table(MOST_UNSURE, 2);
        final Table found = new Table(MOST_FOUND, 2);
        boolean begun;
        int east;
        int north;
        int clouds;
        int idle;

        void clear() {
            boys.count = 0;
            officers.count = 0;
            watches.count = 0;
            noons.count = 0;
            shoals.count = 0;
            unsure.count = 0;
            found.count = 0;
            begun = false;
            east = 0;
            north = 0;
            clouds = 0;
            idle = 0;
        }

        boolean isLate() {
            return isLaterThanAll(noons, NOON_AFTER) || isLaterThanAll(found, FOUND_AFTER);
        }

        private boolean isLaterThanAll(Table table, int column) {
            for (int i = 0; i < table.count; i++) {
                if (table.cell(i, column) > watches.count) {
                    return true;
                }
            }
            return false;
        }
    }

    /**
     * Reads a text into a voyage, from the left, and stops at the first fault. Every fault lies at
     * the token that has just been read, so looking at one token's faults by their numbers is enough.
     */
    private static final class Reader {
        static final int FORM = 1;
        static final int UNTOLD = 2;
        static final int AGAIN = 3;
        static final int BOUNDS = 4;
        static final int MANY = 5;
        static final int LACKS = 6;
        static final int LATE = 7;

        static final int END = 0;
        static final int WORD = 1;
        static final int WHOLE = 2;
        static final int PARTING = 3;
        static final int ALIEN = 4;

        static final int LONGEST_WORD = 8;
        static final int LONGEST_WHOLE = 3;

        final byte[] text;
        final long[] boyNames = new long[MOST_BOYS];
        final long[] officerNames = new long[MOST_OFFICERS];
        Voyage voyage;
        int end;
        int next;
        int sort;
        int start;
        long word;
        int whole;
        int named;
        int faultNumber;
        int faultPlace;

        Reader(byte[] text, Voyage voyage) {
            this.text = text;
            this.voyage = voyage;
        }

        void read(int length, Voyage into) {
            voyage = into;
            voyage.clear();
            end = length;
            next = 0;
            faultNumber = 0;
            faultPlace = NONE;
            boolean more = true;
            for (int lines = 0; more && lines <= TAPE_ROOM; lines++) {
                more = readLine() && isParted();
            }
            if (faultNumber == 0) {
                judgeWhole();
            }
        }

        private void judgeWhole() {
            if (voyage.watches.count == 0) {
                fail(LACKS);
            } else if (voyage.isLate()) {
                fail(LATE);
            }
        }

        private boolean isParted() {
            readToken();
            if (sort == PARTING) {
                return true;
            }
            return sort == END ? false : fail(FORM);
        }

        private boolean readLine() {
            readToken();
            if (is("voyage")) {
                return voyage.begun ? fail(AGAIN) : readVoyage();
            }
            if (!beginsLine()) {
                return fail(FORM);
            }
            if (!voyage.begun) {
                return fail(LACKS);
            }
            if (is("boy")) {
                return voyage.boys.isFull() ? fail(MANY) : readBoy();
            }
            if (is("officer")) {
                return voyage.officers.isFull() ? fail(MANY) : readOfficer();
            }
            if (is("watch")) {
                return voyage.watches.isFull() ? fail(MANY) : readWatch();
            }
            if (is("noon")) {
                return voyage.noons.isFull() ? fail(MANY) : readNoon();
            }
            if (is("shoal")) {
                return voyage.shoals.isFull() ? fail(MANY) : readShoal();
            }
            if (is("unsure")) {
                return voyage.unsure.isFull() ? fail(MANY) : readUnsure();
            }
            return voyage.found.isFull() ? fail(MANY) : readFound();
        }

        private boolean readVoyage() {
            voyage.begun = true;
            if (!nextIs("from") || !nextWhole(0, 199)) {
                return false;
            }
            voyage.east = whole;
            if (!nextWhole(0, 199)) {
                return false;
            }
            voyage.north = whole;
            if (!nextIs("clouds") || !nextWhole(0, 100)) {
                return false;
            }
            voyage.clouds = whole;
            if (!nextIs("idle") || !nextWhole(0, 100)) {
                return false;
            }
            voyage.idle = whole;
            return true;
        }

        private boolean readBoy() {
            if (!nextNewName()) {
                return false;
            }
            long name = word;
            readToken();
            int kind = is("honest") ? HONEST : is("sly") ? SLY : is("bold") ? BOLD : NONE;
            if (kind == NONE) {
                return fail(FORM);
            }
            if (!nextIs("early") || !nextWhole(0, 20)) {
                return false;
            }
            keepName(boyNames, voyage.boys.count, name);
            voyage.boys.add(kind, whole, 0, 0);
            return true;
        }

        private boolean readOfficer() {
            if (!nextNewName()) {
                return false;
            }
            long name = word;
            if (!nextIs("every") || !nextWhole(1, 9)) {
                return false;
            }
            keepName(officerNames, voyage.officers.count, name);
            voyage.officers.add(whole, looksEvery(whole), 0, 0);
            return true;
        }

        private static int looksEvery(int every) {
            int bits = 0;
            for (int g = 1; g <= GLASSES; g++) {
                if (every > 0 && g % every == 0) {
                    bits |= 1 << (g - 1);
                }
            }
            return bits;
        }

        private boolean readWatch() {
            if (!nextNameOf(boyNames, voyage.boys.count)) {
                return false;
            }
            int boy = named;
            if (!nextNameOf(officerNames, voyage.officers.count)) {
                return false;
            }
            int officer = named;
            readToken();
            int course = courseRead();
            if (course == NONE) {
                return fail(FORM);
            }
            if (!nextIs("speed") || !nextWhole(0, 9)) {
                return false;
            }
            voyage.watches.add(boy, officer, course, whole);
            return true;
        }

        private boolean readNoon() {
            if (!nextIs("at") || !nextWhole(1, MOST_WATCHES)) {
                return false;
            }
            if (voyage.noons.holds(NOON_AFTER, whole)) {
                return fail(AGAIN);
            }
            voyage.noons.add(whole, 0, 0, 0);
            return true;
        }

        private boolean readShoal() {
            if (!nextWhole(0, 199)) {
                return false;
            }
            int east = whole;
            if (!nextWhole(0, 199)) {
                return false;
            }
            int square = Ship.squareNumber(east, whole);
            if (voyage.shoals.holds(SHOAL_SQUARE, square)) {
                return fail(AGAIN);
            }
            voyage.shoals.add(square, 0, 0, 0);
            return true;
        }

        private boolean readUnsure() {
            if (!nextNameOf(boyNames, voyage.boys.count)) {
                return false;
            }
            int boy = named;
            if (voyage.unsure.holds(UNSURE_BOY, boy)) {
                return fail(AGAIN);
            }
            if (!nextWhole(0, 20)) {
                return false;
            }
            voyage.unsure.add(boy, whole, 0, 0);
            return true;
        }

        private boolean readFound() {
            if (!nextWhole(0, MOST_WATCHES)) {
                return false;
            }
            int after = whole;
            if (voyage.found.holds(FOUND_AFTER, after)) {
                return fail(AGAIN);
            }
            if (!nextIs("at") || !nextWhole(0, 199)) {
                return false;
            }
            int east = whole;
            if (!nextWhole(0, 199)) {
                return false;
            }
            voyage.found.add(after, Ship.squareNumber(east, whole), 0, 0);
            return true;
        }

        private int courseRead() {
            if (is("north")) {
                return NORTH;
            }
            if (is("east")) {
                return EAST;
            }
            if (is("south")) {
                return SOUTH;
            }
            return is("west") ? WEST : NONE;
        }

        private boolean nextIs(String due) {
            readToken();
            return is(due) || fail(FORM);
        }

        private boolean nextWhole(int least, int most) {
            readToken();
            if (sort != WHOLE) {
                return fail(FORM);
            }
            return whole >= least && whole <= most || fail(BOUNDS);
        }

        private boolean nextNewName() {
            readToken();
            if (sort != WORD || beginsLine()) {
                return fail(FORM);
            }
            boolean told = numberOf(boyNames, voyage.boys.count) != NONE
                || numberOf(officerNames, voyage.officers.count) != NONE;
            return !told || fail(AGAIN);
        }

        private boolean nextNameOf(long[] names, int count) {
            readToken();
            if (sort != WORD || beginsLine()) {
                return fail(FORM);
            }
            named = numberOf(names, count);
            return named != NONE || fail(UNTOLD);
        }

        private int numberOf(long[] names, int count) {
            for (int i = 0; i < count && i < names.length; i++) {
                if (names[i] == word) {
                    return i;
                }
            }
            return NONE;
        }

        private static void keepName(long[] names, int i, long name) {
            if (i >= 0 && i < names.length) {
                names[i] = name;
            }
        }

        private boolean beginsLine() {
            return is("voyage") || is("boy") || is("officer") || is("watch")
                || is("noon") || is("shoal") || is("unsure") || is("found");
        }

        private boolean is(String due) {
            long packed = 0;
            for (int i = 0; i < due.length(); i++) {
                packed = packed << 8 | due.charAt(i);
            }
            return sort == WORD && word == packed;
        }

        private boolean fail(int number) {
            faultNumber = number;
            faultPlace = start;
            return false;
        }

        // A word is packed by eight bits a letter: eight letters are as many as a long has room for.
        private void readToken() {
            for (int i = next; i < end && byteAt(i) == ' '; i++) {
                next = i + 1;
            }
            start = next;
            sort = start < end ? sortOf(byteAt(start)) : END;
            word = 0;
            whole = 0;
            boolean runs = sort == WORD || sort == WHOLE;
            for (int i = start; i < end && (i == start || runs && sortOf(byteAt(i)) == sort); i++) {
                word = word << 8 | byteAt(i);
                whole = 10 * whole + byteAt(i) - '0';
                next = i + 1;
            }
            int longest = sort == WORD ? LONGEST_WORD : sort == WHOLE ? LONGEST_WHOLE : 1;
            if (next - start > longest) {
                sort = ALIEN;
            }
        }

        private int byteAt(int i) {
            return i >= 0 && i < text.length ? text[i] & 255 : 0;
        }

        private static int sortOf(int sign) {
            if (sign >= 'a' && sign <= 'z') {
                return WORD;
            }
            if (sign >= '0' && sign <= '9') {
                return WHOLE;
            }
            return sign == ';' ? PARTING : ALIEN;
        }
    }

    /** How a voyage is kept: by whom, on which courses, attended or not, how early boys are, which noons are seen. */
    private static final class Keeping {
        static final int ALL_SEEN = -1;

        final Table watches = new Table(MOST_WATCHES, 3);
        final Table early = new Table(MOST_BOYS, 1);
        int seen = ALL_SEEN;

        void setAsTold(Voyage voyage) {
            for (int k = 0; k < voyage.watches.count; k++) {
                watches.put(k, KEPT_BOY, voyage.watches.cell(k, WATCH_BOY));
                watches.put(k, KEPT_COURSE, voyage.watches.cell(k, WATCH_COURSE));
                watches.put(k, KEPT_ATTENDED, 0);
            }
            for (int b = 0; b < voyage.boys.count; b++) {
                early.put(b, 0, voyage.boys.cell(b, BOY_EARLY));
            }
            seen = ALL_SEEN;
        }

        void copyFrom(Keeping other) {
            watches.copyFrom(other.watches);
            early.copyFrom(other.early);
            seen = other.seen;
        }

        void attendAll(int bits) {
            for (int k = 0; k < MOST_WATCHES; k++) {
                if ((bits >> k & 1) != 0) {
                    watches.put(k, KEPT_ATTENDED, 1);
                }
            }
        }
    }

    /** The latest acts, each by its watch, what it changed, and what that was before. */
    private static final class Acts {
        final Table made = new Table(MOST_ACTS, 3);
        int latest;
        int kept;

        void make(Keeping now, int k, int column, int value) {
            made.put(latest, 0, k);
            made.put(latest, 1, column);
            made.put(latest, 2, now.watches.cell(k, column));
            latest = (latest + 1) % MOST_ACTS;
            kept = Math.min(kept + 1, MOST_ACTS);
            now.watches.put(k, column, value);
        }

        void takeBack(Keeping now) {
            latest = (latest + MOST_ACTS - 1) % MOST_ACTS;
            kept = Math.max(kept - 1, 0);
            now.watches.put(made.cell(latest, 0), made.cell(latest, 1), made.cell(latest, 2));
        }

        void forget() {
            kept = 0;
        }
    }

    /** Where a ship is, and where it is thought to be. */
    private static final class Ship {
        int east;
        int north;
        int thoughtEast;
        int thoughtNorth;

        void setOut(int squareEast, int squareNorth) {
            east = squareEast * SQUARE_WIDTH + SQUARE_WIDTH / 2;
            north = squareNorth * SQUARE_WIDTH + SQUARE_WIDTH / 2;
            thoughtEast = east;
            thoughtNorth = north;
        }

        void go(int course, int truly, int asTold) {
            int eastward = course == EAST ? 1 : course == WEST ? -1 : 0;
            int northward = course == NORTH ? 1 : course == SOUTH ? -1 : 0;
            east += eastward * truly;
            north += northward * truly;
            thoughtEast += eastward * asTold;
            thoughtNorth += northward * asTold;
        }

        void seeNoon() {
            thoughtNorth = north;
        }

        int apart() {
            return Math.abs(east - thoughtEast) + Math.abs(north - thoughtNorth);
        }

        int inSquare() {
            return squareNumber(Math.floorDiv(east, SQUARE_WIDTH), Math.floorDiv(north, SQUARE_WIDTH));
        }

        int thoughtInSquare() {
            return squareNumber(
                Math.floorDiv(thoughtEast, SQUARE_WIDTH), Math.floorDiv(thoughtNorth, SQUARE_WIDTH));
        }

        static int squareNumber(int squareEast, int squareNorth) {
            return 1000 * (squareEast + 300) + squareNorth + 300;
        }
    }

    /** Reckons what is stolen and where the ship comes to, however the voyage is kept. */
    private static final class Reckoner {
        final Ship ship = new Ship();
        final Table lost = new Table(MOST_WATCHES, 1);
        final Keeping trial = new Keeping();
        Voyage voyage;
        int seed;

        Reckoner(Voyage voyage) {
            this.voyage = voyage;
        }

        Keeping trialOf(Keeping kept) {
            trial.copyFrom(kept);
            return trial;
        }

        int looksIn(Keeping kept, int k) {
            if (kept.watches.cell(k, KEPT_ATTENDED) != 0) {
                return ALL_GLASSES;
            }
            return voyage.officers.cell(voyage.watches.cell(k, WATCH_OFFICER), OFFICER_LOOKS);
        }

        int turned(Keeping kept, int k, int g) {
            return earlyIn(kept, k, (looksIn(kept, k) >> (g - 1) & 1) != 0);
        }

        private int earlyIn(Keeping kept, int k, boolean looked) {
            int boy = kept.watches.cell(k, KEPT_BOY);
            int kind = voyage.boys.cell(boy, BOY_KIND);
            int early = kept.early.cell(boy, 0);
            if (kind == HONEST) {
                return 0;
            }
            if (!looked) {
                return early;
            }
            return kind == BOLD ? early / 2 : 0;
        }

        int stolenIn(Keeping kept, int k) {
            int looked = Integer.bitCount(looksIn(kept, k));
            return looked * earlyIn(kept, k, true) + (GLASSES - looked) * earlyIn(kept, k, false);
        }

        int stolenOf(Keeping kept, int b) {
            int sum = 0;
            for (int k = 0; k < voyage.watches.count; k++) {
                if (kept.watches.cell(k, KEPT_BOY) == b) {
                    sum += stolenIn(kept, k);
                }
            }
            return sum;
        }

        // What is lost is kept watch by watch, so that sailing goes alike by reckoning and by draws.
        void reckon(Keeping kept) {
            for (int k = 0; k < voyage.watches.count; k++) {
                lost.put(k, 0, stolenIn(kept, k));
            }
        }

        void drawIdle(Keeping kept) {
            for (int k = 0; k < voyage.watches.count; k++) {
                lost.put(k, 0, drawnIn(kept, k));
            }
        }

        private int drawnIn(Keeping kept, int k) {
            int looks = looksIn(kept, k);
            int looked = earlyIn(kept, k, true);
            int unlooked = earlyIn(kept, k, false);
            int sum = 0;
            for (int g = 0; g < GLASSES; g++) {
                int early = (looks >> g & 1) != 0 ? looked : unlooked;
                if (early > 0 && !isIdle()) {
                    sum += early;
                }
            }
            return sum;
        }

        private boolean isIdle() {
            seed = (75 * seed + 74) % SEEDS;
            return seed % 100 < voyage.idle;
        }

        int lostBy(int n) {
            int sum = 0;
            for (int k = 0; k < n; k++) {
                sum += lost.cell(k, 0);
            }
            return sum;
        }

        Ship sailFor(Keeping kept, int n) {
            reckon(kept);
            sail(kept, 0, n);
            return ship;
        }

        void sail(Keeping kept, int from, int to) {
            if (from == 0) {
                ship.setOut(voyage.east, voyage.north);
            }
            for (int k = from; k < to; k++) {
                int speed = voyage.watches.cell(k, WATCH_SPEED);
                int minutes = WATCH_MINUTES - lost.cell(k, 0);
                ship.go(kept.watches.cell(k, KEPT_COURSE), minutes * speed, WATCH_MINUTES * speed);
                if (isNoonSeen(kept, k + 1)) {
                    ship.seeNoon();
                }
            }
        }

        private boolean isNoonSeen(Keeping kept, int n) {
            for (int i = 0; i < voyage.noons.count; i++) {
                if (voyage.noons.cell(i, NOON_AFTER) == n) {
                    return (kept.seen >> i & 1) != 0;
                }
            }
            return false;
        }

        int firstStrike(Keeping kept, boolean asThought) {
            for (int n = 0; n <= voyage.watches.count; n++) {
                sail(kept, Math.max(n - 1, 0), n);
                int square = asThought ? ship.thoughtInSquare() : ship.inSquare();
                if (voyage.shoals.holds(SHOAL_SQUARE, square)) {
                    return n;
                }
            }
            return BY_NONE;
        }
    }

    /** Which watches to attend. */
    private static final class Attending {
        final Reckoner reckoner;
        final Table savings = new Table(MOST_WATCHES, 1);

        Attending(Reckoner reckoner) {
            this.reckoner = reckoner;
        }

        int stolenWith(Keeping now, int bits) {
            Keeping trial = reckoner.trialOf(now);
            trial.attendAll(bits);
            reckoner.reckon(trial);
            return reckoner.lostBy(reckoner.voyage.watches.count);
        }

        int bestOne(Keeping now) {
            findSavings(now);
            int best = 0;
            for (int k = 1; k < reckoner.voyage.watches.count; k++) {
                if (savings.cell(k, 0) > savings.cell(best, 0)) {
                    best = k;
                }
            }
            return best;
        }

        // Of sets of like many the least bits leave out the highest watches wherever the rest will do.
        int fewestFor(Keeping now, int minutes) {
            int all = reckoner.voyage.watches.count;
            int need = stolenWith(now, 0) - minutes;
            findSavings(now);
            if (most(all, all) < need) {
                return BY_NONE;
            }
            int left = 0;
            for (int k = 0; k < all && most(all, left) < need; k++) {
                left++;
            }
            int bits = 0;
            for (int k = all - 1; k >= 0 && left > 0; k--) {
                if (most(k, left) < need) {
                    bits |= 1 << k;
                    left--;
                    need -= savings.cell(k, 0);
                }
            }
            return bits;
        }

        private void findSavings(Keeping now) {
            Keeping trial = reckoner.trialOf(now);
            trial.attendAll(-1);
            for (int k = 0; k < reckoner.voyage.watches.count; k++) {
                savings.put(k, 0, reckoner.stolenIn(now, k) - reckoner.stolenIn(trial, k));
            }
        }

        // What so many of the first watches save at most.
        private int most(int watches, int many) {
            int taken = 0;
            int sum = 0;
            for (int i = 0; i < many && i < watches; i++) {
                int best = NONE;
                for (int k = 0; k < watches; k++) {
                    boolean free = (taken >> k & 1) == 0;
                    if (free && (best == NONE || savings.cell(k, 0) > savings.cell(best, 0))) {
                        best = k;
                    }
                }
                if (best != NONE) {
                    taken |= 1 << best;
                    sum += savings.cell(best, 0);
                }
            }
            return sum;
        }
    }

    /** What comes of sets of unsure boys; a set is bits of them, as told. */
    private static final class Doubts {
        final Reckoner reckoner;
        final Table squares = new Table(MOST_SETS, 1);

        Doubts(Reckoner reckoner) {
            this.reckoner = reckoner;
        }

        private int sets() {
            return 1 << reckoner.voyage.unsure.count;
        }

        private Keeping supposing(Keeping now, int set) {
            return with(reckoner.trialOf(now), set);
        }

        private Keeping asTold(int set) {
            reckoner.trial.setAsTold(reckoner.voyage);
            return with(reckoner.trial, set);
        }

        private Keeping with(Keeping trial, int set) {
            Table unsure = reckoner.voyage.unsure;
            for (int i = 0; i < unsure.count; i++) {
                if ((set >> i & 1) != 0) {
                    trial.early.put(unsure.cell(i, UNSURE_BOY), 0, unsure.cell(i, UNSURE_EARLY));
                }
            }
            return trial;
        }

        int squaresAfter(Keeping now, int n) {
            squares.count = 0;
            for (int set = 0; set < sets(); set++) {
                int square = reckoner.sailFor(supposing(now, set), n).inSquare();
                if (!squares.holds(0, square)) {
                    squares.add(square, 0, 0, 0);
                }
            }
            return squares.count;
        }

        int strikingSets(Keeping now) {
            int count = 0;
            for (int set = 0; set < sets(); set++) {
                Keeping trial = supposing(now, set);
                reckoner.reckon(trial);
                if (reckoner.firstStrike(trial, false) != BY_NONE) {
                    count++;
                }
            }
            return count;
        }

        boolean isSafeBy(Keeping now, int k, int course) {
            for (int set = 0; set < sets(); set++) {
                Keeping trial = supposing(now, set);
                trial.watches.put(k, KEPT_COURSE, course);
                reckoner.reckon(trial);
                if (reckoner.firstStrike(trial, false) != BY_NONE) {
                    return false;
                }
            }
            return true;
        }

        int firstMisfit(int set) {
            Table found = reckoner.voyage.found;
            Keeping trial = asTold(set);
            reckoner.reckon(trial);
            for (int i = 0; i < found.count; i++) {
                reckoner.sail(trial, 0, found.cell(i, FOUND_AFTER));
                if (reckoner.ship.inSquare() != found.cell(i, FOUND_SQUARE)) {
                    return i;
                }
            }
            return BY_NONE;
        }

        // The sets that fit, as bits of their own: the set s is the bit 1 << s.
        int fittingSets() {
            int fitting = 0;
            for (int set = 0; set < sets(); set++) {
                if (firstMisfit(set) == BY_NONE) {
                    fitting |= 1 << set;
                }
            }
            return fitting;
        }

        int fitOf(int fitting, int i) {
            int left = i;
            for (int set = 0; set < sets() && left >= 0; set++) {
                if ((fitting >> set & 1) != 0) {
                    if (left == 0) {
                        return set;
                    }
                    left--;
                }
            }
            return NONE;
        }

        int boysInSome(int fitting) {
            int boys = 0;
            for (int set = 0; set < sets(); set++) {
                if ((fitting >> set & 1) != 0) {
                    boys |= set;
                }
            }
            return boys;
        }

        int boysInAll(int fitting) {
            int boys = fitting == 0 ? 0 : sets() - 1;
            for (int set = 0; set < sets(); set++) {
                if ((fitting >> set & 1) != 0) {
                    boys &= set;
                }
            }
            return boys;
        }

        int bestFix(int fitting) {
            int best = BY_NONE;
            int fewest = 0;
            for (int n = 0; fitting != 0 && n <= reckoner.voyage.watches.count; n++) {
                int left = mostLeft(fitting, n);
                if (best == BY_NONE || left < fewest) {
                    best = n;
                    fewest = left;
                }
            }
            return best;
        }

        int mostLeft(int fitting, int n) {
            squares.count = 0;
            for (int set = 0; set < sets(); set++) {
                if ((fitting >> set & 1) != 0) {
                    Keeping trial = asTold(set);
                    reckoner.reckon(trial);
                    reckoner.sail(trial, 0, n);
                    squares.add(reckoner.ship.inSquare(), 0, 0, 0);
                }
            }
            int most = 0;
            for (int i = 0; i < squares.count; i++) {
                int like = 0;
                for (int j = 0; j < squares.count; j++) {
                    like += squares.cell(i, 0) == squares.cell(j, 0) ? 1 : 0;
                }
                most = Math.max(most, like);
            }
            return most;
        }
    }

    /** What comes of noons that are seen by chance. */
    private static final class Clouds {
        static final int IN_ALL = 100;

        final Reckoner reckoner;
        long upper;
        long lower;

        Clouds(Reckoner reckoner) {
            this.reckoner = reckoner;
        }

        void weighOdds(Keeping now, int n, int much) {
            upper = 0;
            reckoner.reckon(now);
            for (int seen = 0; seen < 1 << reckoner.voyage.noons.count; seen++) {
                if (apart(now, n, seen) <= much) {
                    upper += weight(seen);
                }
            }
            bringToLowestTerms();
        }

        void weighMean(Keeping now, int n) {
            upper = 0;
            reckoner.reckon(now);
            for (int seen = 0; seen < 1 << reckoner.voyage.noons.count; seen++) {
                upper += weight(seen) * apart(now, n, seen);
            }
            bringToLowestTerms();
        }

        int dearestNoon(Keeping now) {
            int n = reckoner.voyage.watches.count;
            reckoner.reckon(now);
            int dearest = BY_NONE;
            int farthest = apart(now, n, Keeping.ALL_SEEN);
            for (int i = 0; i < reckoner.voyage.noons.count; i++) {
                int apart = apart(now, n, Keeping.ALL_SEEN & ~(1 << i));
                if (apart > farthest) {
                    dearest = i;
                    farthest = apart;
                }
            }
            return dearest;
        }

        // What is lost has been reckoned by now: noons change nothing of it.
        private int apart(Keeping now, int n, int seen) {
            Keeping trial = reckoner.trialOf(now);
            trial.seen = seen;
            reckoner.sail(trial, 0, n);
            return reckoner.ship.apart();
        }

        private long weight(int seen) {
            long weight = 1;
            for (int i = 0; i < reckoner.voyage.noons.count; i++) {
                int unseen = reckoner.voyage.clouds;
                weight *= (seen >> i & 1) != 0 ? IN_ALL - unseen : unseen;
            }
            return weight;
        }

        private void bringToLowestTerms() {
            lower = 1;
            for (int i = 0; i < reckoner.voyage.noons.count; i++) {
                lower *= IN_ALL;
            }
            long common = commonOf(upper, lower);
            if (common > 1) {
                upper /= common;
                lower /= common;
            }
        }

        // Numbers below 2 to the 63rd are through in under a hundred steps.
        private static long commonOf(long a, long b) {
            long one = a;
            long other = b;
            for (int i = 0; i < 200 && other != 0; i++) {
                long left = one % other;
                one = other;
                other = left;
            }
            return one;
        }
    }
}
