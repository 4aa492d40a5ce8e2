import java.util.Arrays;
import java.util.NoSuchElementException;

public final class CartTurns {
    public static final int NONE = -1;

    private static final int MOST_TAPE = 940;
    private static final int FED = 20;
    private static final int MOST_DOWNS = 900;
    private static final int MOST_BOOK = 400;
    private static final int MOST_SENTENCE = 200;
    // No text may be longer than DOWNS, and a TOKEN has a byte at least; one more tells the end.
    private static final int MOST_TOKENS = MOST_DOWNS + 1;

    private static final int MOST_SIDE = 9;
    private static final int GROUND = MOST_SIDE * MOST_SIDE;
    private static final int STANDS = 4 * GROUND;
    private static final int MOST_FIGURES = 6;
    private static final int MOST_PERSONS = 5;
    private static final int MOST_POINTS = 5;
    private static final int MOST_CELLS = 5;
    private static final int MOST_LINES = 40;
    private static final int MOST_ONES = 20;
    private static final int MOST_WITHIN = 8;
    private static final int MOST_STEPS = 6;
    private static final int MOST_UNDOES = 3;
    private static final int MOST_UNDONE = 8;
    private static final int ALL_HOURS = 400;
    private static final int MOST_HOURS = 60;
    private static final int MOST_SEEDS = 30;
    private static final int ODDS_HOURS = 20;
    private static final int MOST_SLIP = 25;

    private static final int[] STEP_X = {1, 0, -1, 0};
    private static final int[] STEP_Y = {0, 1, 0, -1};

    private static final int NO_TOKEN = 1;
    private static final int BAD_NUMBER = 2;
    private static final int BAD_NAME = 3;
    private static final int TOO_MANY = 4;

    // A sign is its own kind of TOKEN, so the kinds that are no signs keep clear of 59 to 62, 40 and 41.
    private static final int END = 0;
    private static final int NOTHING = 1;
    private static final int NUMERAL = 2;
    private static final int NAME = 3;
    private static final int FIRST_KEYWORD = 200;

    // The order of these words is the order of the numbers below.
    private static final String KEYWORDS = "downs wall figure person point says kicks rests hour east south west north or and not upright spent settled has by breath up said number ";
    private static final int KEYWORD_COUNT = 25;
    private static final int DOWNS = 200;
    private static final int WALL = 201;
    private static final int FIGURE = 202;
    private static final int PERSON = 203;
    private static final int POINT = 204;
    private static final int SAYS = 205;
    private static final int KICKS = 206;
    private static final int RESTS = 207;
    private static final int HOUR = 208;
    private static final int EAST = 209;
    private static final int NORTH = 212;
    private static final int OR = 213;
    private static final int AND = 214;
    private static final int NOT = 215;
    private static final int UPRIGHT = 216;
    private static final int SPENT = 217;
    private static final int SETTLED = 218;
    private static final int HAS = 219;
    private static final int BY = 220;
    private static final int BREATH = 221;
    private static final int UP = 222;
    private static final int SAID = 223;
    private static final int NUMBER = 224;

    private final Tape tape = new Tape();
    private final World here = new World(new Downs());
    // It stands on the same DOWNS, so that only what moves is copied for a trial.
    private final World trial = new World(here.downs);
    private final DownsText downsText = new DownsText(tape);
    private final Book book = new Book(tape);
    private final Sentence draftSentence = new Sentence();
    private final Search search = new Search();
    private final Undoing undoing = new Undoing();
    private final Tracks tracks = new Tracks();
    private final History history = new History();
    private final World[] images = {new World(new Downs()), new World(new Downs())};
    private final boolean[] imageKept = new boolean[2];
    private final byte[] slip = new byte[MOST_SLIP];
    private int slipSize = 0;

    public CartTurns() {
    }

    public int feed(int a, int b, int c, int d, int e) {
        if (tape.size + FED > MOST_TAPE) {
            return NONE;
        }
        tape.put(a);
        tape.put(b);
        tape.put(c);
        tape.put(d);
        tape.put(e);
        return tape.size;
    }

    public boolean end(int n) {
        if (n < 0 || n > tape.size) {
            return false;
        }
        tape.size = n;
        return true;
    }

    public int downs() {
        int lines = downsText.read();
        tape.size = 0;
        if (lines == NONE) {
            return -1 - tape.place;
        }
        here.copyFrom(downsText.draft);
        history.clear();
        return lines;
    }

    public int fault() {
        return tape.fault;
    }

    public int person(int p, int what) throws NoSuchElementException {
        if (!here.hasPerson(p) || what < 0 || what > 6) {
            throw new NoSuchElementException();
        }
        switch (what) {
            case 0:
                return here.state.x[p];
            case 1:
                return here.state.y[p];
            case 2:
                return here.state.up[p];
            case 3:
                return here.state.breath[p];
            case 4:
                return here.downs.mostBreath[p];
            case 5:
                return here.state.came[p];
            default:
                return here.state.spoken[p];
        }
    }

    public int figure(int f, int what) {
        if (!here.hasFigure(f)) {
            return NONE;
        }
        switch (what) {
            case 0:
                return here.downs.quarters[f];
            case 1:
                return here.downs.cells[f];
            case 2:
                return here.downs.cost(f);
            default:
                return NONE;
        }
    }

    public int point(int q, int what) {
        if (!here.hasPoint(q)) {
            return NONE;
        }
        switch (what) {
            case 0:
                return here.downs.pointX[q];
            case 1:
                return here.downs.pointY[q];
            case 2:
                return here.downs.pointUp[q];
            case 3:
                return here.forWhomCame(q);
            default:
                return NONE;
        }
    }

    public int cell(int x, int y, int what) {
        if (!here.downs.isInside(x, y)) {
            return NONE;
        }
        switch (what) {
            case 0:
                return here.state.walls[cellOf(x, y)];
            case 1:
                return here.whoIsAt(x, y);
            case 2:
                return here.downs.pointsAt(x, y);
            default:
                return NONE;
        }
    }

    public int now(int what) {
        switch (what) {
            case 0:
                return here.state.hour;
            case 1:
                return here.allWalls();
            case 2:
                return here.allSpoken();
            case 3:
                return here.state.kicks;
            case 4:
                return here.whoIsSpent();
            case 5:
                return here.whoIsSettled();
            case 6:
                return here.whoIsUpright();
            case 7:
                return here.allBreath();
            default:
                return NONE;
        }
    }

    public int say(int p, int f, int side) {
        if (!here.hasPerson(p) || !here.hasFigure(f) || !isSide(side)) {
            return NONE;
        }
        int why = here.whyNotSay(p, f, side);
        if (why == 0) {
            history.keep(here.state);
            here.doSay(p, f, side);
        }
        return why;
    }

    public int kick(int p, int side) {
        if (!here.hasPerson(p) || !isSide(side)) {
            return NONE;
        }
        int why = here.whyNotKick(p, side);
        if (why == 0) {
            history.keep(here.state);
            here.doKick(p, side);
        }
        return why;
    }

    public int rest(int p) {
        if (!here.hasPerson(p)) {
            return NONE;
        }
        int why = here.whyNotRest(p);
        if (why == 0) {
            history.keep(here.state);
            here.doRest(p);
        }
        return why;
    }

    public int hours(int n) {
        if (!isIn(n, 1, MOST_HOURS)) {
            return NONE;
        }
        int gone = Math.min(n, here.hoursLeft());
        if (gone > 0) {
            history.keep(here.state);
            here.passHours(gone);
        }
        return gone;
    }

    public int undo() {
        return history.takeBack(here.state);
    }

    public int could(int p, int f) {
        if (!here.hasPerson(p) || !here.hasFigure(f)) {
            return NONE;
        }
        int sides = 0;
        for (int side = 0; side < 4; side++) {
            if (here.whyNotSay(p, f, side) == 0) {
                sides |= 1 << side;
            }
        }
        return sides;
    }

    public int way(int p, int q) {
        if (!here.hasPerson(p) || !here.hasPoint(q)) {
            return NONE;
        }
        search.spread(here, p, NONE);
        return search.keepWayTo(here.downs.standOfPoint(q));
    }

    public int wayAt(int k) {
        return k >= 0 && k < search.length ? search.path[k] : NONE;
    }

    public int both(int p, int o, int q) {
        if (!here.hasPerson(p) || !here.hasPerson(o) || p == o || !here.hasPoint(q)) {
            return NONE;
        }
        int goal = here.downs.standOfPoint(q);
        search.spread(here, p, o);
        int one = search.far[goal];
        search.spread(here, o, p);
        int other = search.far[goal];
        return one == NONE || other == NONE ? NONE : Math.max(one, other);
    }

    public int sees(int p) {
        if (!here.hasPerson(p)) {
            return NONE;
        }
        search.spread(here, p, NONE);
        return search.countCells();
    }

    public int undoes(int f) {
        return here.hasFigure(f) ? undoing.find(here.downs, f) : NONE;
    }

    public int undoesAt(int k) {
        return k >= 0 && k < undoing.length ? undoing.path[k] : NONE;
    }

    public int tracks() {
        int ways = tracks.follow(tape, here.downs);
        tape.size = 0;
        return ways;
    }

    public int tracksAt(int k) {
        return k >= 0 && k < tracks.steps ? tracks.first[k] : NONE;
    }

    public int tells() {
        return tracks.stepOfMost();
    }

    public int least() {
        return here.whoHasLeast();
    }

    public int mean(int what) throws NoSuchElementException {
        int persons = here.downs.persons;
        if (persons < 1 || what < 0 || what > 1) {
            throw new NoSuchElementException();
        }
        int breath = here.allBreath();
        int shared = commonDivisor(breath, persons);
        if (shared < 1) {
            shared = 1;
        }
        return what == 0 ? breath / shared : persons / shared;
    }

    public int slip(int p) {
        if (!here.hasPerson(p)) {
            return NONE;
        }
        slipSize = 0;
        slipName(here.downs.personName[p]);
        slipText(" at ");
        slipByte('0' + here.state.x[p]);
        slipByte(' ');
        slipByte('0' + here.state.y[p]);
        slipText(" up ");
        slipByte('0' + here.state.up[p]);
        if (here.state.breath[p] == 0) {
            slipText(" spent");
        }
        return slipSize;
    }

    public int byteAt(int i) {
        return i >= 0 && i < slipSize ? slip[i] : NONE;
    }

    public int drawn(int n, int seed) {
        if (!isIn(n, 1, MOST_HOURS)) {
            return NONE;
        }
        int gone = Math.min(n, here.hoursLeft());
        if (gone > 0) {
            history.keep(here.state);
            here.drawHours(gone, seed);
        }
        return gone;
    }

    public int odds(int p, int q, int n, int seed) {
        if (!here.hasPerson(p) || !here.hasPoint(q) || !isIn(n, 1, MOST_SEEDS)) {
            return NONE;
        }
        int came = 0;
        for (int k = 0; k < n; k++) {
            trial.state.copyFrom(here.state);
            trial.drawHours(Math.min(ODDS_HOURS, trial.hoursLeft()), seed + k);
            came += trial.state.came[p] >> q & 1;
        }
        return came;
    }

    public int book(int lives) {
        if (lives != 0 && lives != 1) {
            return -1000;
        }
        boolean read = book.read(here.downs);
        tape.size = 0;
        if (!read) {
            return -2 - tape.place;
        }
        trial.state.copyFrom(here.state);
        book.judge(trial);
        if (lives == 1 && book.right > 0) {
            history.keep(here.state);
            here.state.copyFrom(trial.state);
        }
        return book.why == 0 ? NONE : book.right;
    }

    public int told(int what) {
        if (!book.judged) {
            return NONE;
        }
        switch (what) {
            case 0:
                return book.why;
            case 1:
                return book.right;
            case 2:
                return book.hour;
            case 3:
                return book.settled;
            default:
                return NONE;
        }
    }

    public int sentence() {
        boolean read = draftSentence.read(tape, here.downs);
        tape.size = 0;
        if (!read) {
            return -1 - tape.place;
        }
        here.sentence.copyFrom(draftSentence);
        return draftSentence.ones;
    }

    public int said(int k) {
        if (here.sentence.ones == 0) {
            return NONE;
        }
        int many = 0;
        for (int p = 0; p < here.downs.persons; p++) {
            if (here.sentence.holdsFor(here, p)) {
                if (many == k) {
                    return p;
                }
                many++;
            }
        }
        return k == NONE ? many : NONE;
    }

    public boolean image(int k) {
        if (k < 0 || k >= images.length) {
            return false;
        }
        images[k].copyFrom(here);
        imageKept[k] = true;
        return true;
    }

    public boolean restore(int k) {
        if (k < 0 || k >= images.length || !imageKept[k]) {
            return false;
        }
        here.copyFrom(images[k]);
        history.clear();
        return true;
    }

    public int count(int what) {
        switch (what) {
            case 0:
                return here.downs.wide;
            case 1:
                return here.downs.high;
            case 2:
                return here.downs.figures;
            case 3:
                return here.downs.persons;
            case 4:
                return here.downs.points;
            case 5:
                return tape.size;
            default:
                return NONE;
        }
    }

    private void slipByte(int sign) {
        if (slipSize < slip.length) {
            slip[slipSize] = (byte) sign;
            slipSize++;
        }
    }

    private void slipText(String text) {
        for (int i = 0; i < text.length(); i++) {
            slipByte(text.charAt(i));
        }
    }

    private void slipName(long name) {
        for (int shift = 30; shift >= 0; shift -= 5) {
            int letter = (int) (name >>> shift) & 31;
            if (letter != 0) {
                slipByte('a' - 1 + letter);
            }
        }
    }

    private static boolean isSide(int side) {
        return isIn(side, 0, 3);
    }

    private static boolean isIn(int n, int low, int high) {
        return n >= low && n <= high;
    }

    private static int cellOf(int x, int y) {
        return MOST_SIDE * y + x;
    }

    private static int commonDivisor(int a, int b) {
        int large = a;
        int small = b;
        // The remainders fall at least as fast as Fibonacci's numbers, so an int needs fewer than 50.
        for (int k = 0; k < 50 && small != 0; k++) {
            int left = large % small;
            large = small;
            small = left;
        }
        return large;
    }

    /** Seven letters of five bits fit into a long: names are compared and kept as numbers. */
    private static long packLetter(long word, int letter) {
        return 32 * word + (letter - 'a' + 1);
    }

    /** The bytes that were fed, and the TOKENS along them, one at a time. */
    private static final class Tape {
        final byte[] bytes = new byte[MOST_TAPE];
        int size = 0;
        int kind = END;
        int place = 0;
        int numeral = 0;
        long word = 0;
        int fault = 0;
        private final long[] keywords = packKeywords();
        private final int[] kinds = new int[MOST_TOKENS];
        private final int[] places = new int[MOST_TOKENS];
        private final long[] values = new long[MOST_TOKENS];
        private int tokens = 0;
        private int read = 0;
        private int at = 0;

        void put(int number) {
            for (int shift = 24; shift >= 0; shift -= 8) {
                if (size < bytes.length) {
                    bytes[size] = (byte) (number >>> shift);
                    size++;
                }
            }
        }

        int byteOf(int i) {
            return i >= 0 && i < size ? bytes[i] & 255 : 0;
        }

        /** All TOKENS are found ahead of reading, up to the end or to what is none. */
        void begin(int most) {
            at = 0;
            tokens = 0;
            read = 0;
            fault = 0;
            int latest = NUMERAL;
            while (tokens < MOST_TOKENS && latest != END && latest != NOTHING) {
                skipBlanks();
                places[tokens] = Math.min(at, most);
                latest = scanToken(most);
                kinds[tokens] = latest;
                tokens++;
            }
        }

        void next() {
            if (read < tokens) {
                kind = kinds[read];
                place = places[read];
                word = values[read];
                numeral = (int) values[read];
                read++;
            }
        }

        /** Answers false, so that a reader can return what it refuses. */
        boolean refuse(int kindOfFault) {
            fault = kindOfFault;
            return false;
        }

        boolean wantKind(int wanted) {
            next();
            return kind == wanted || refuse(NO_TOKEN);
        }

        boolean wantNumeral(int low, int high) {
            if (!wantKind(NUMERAL)) {
                return false;
            }
            return isIn(numeral, low, high) || refuse(BAD_NUMBER);
        }

        boolean wantSide() {
            next();
            return isIn(kind, EAST, NORTH) || refuse(NO_TOKEN);
        }

        private void skipBlanks() {
            while (at < size && (byteOf(at) == ' ' || byteOf(at) == '\n')) {
                at++;
            }
        }

        private int scanToken(int most) {
            if (at >= size) {
                return size > most ? NOTHING : END;
            }
            if (at >= most) {
                return NOTHING;
            }
            int sign = byteOf(at);
            if (isLetter(sign) || isDigit(sign)) {
                return scanRun();
            }
            at++;
            return isSign(sign) ? sign : NOTHING;
        }

        private int scanRun() {
            int letters = 0;
            int digits = 0;
            long letterValue = 0;
            int digitValue = 0;
            while (at < size && (isLetter(byteOf(at)) || isDigit(byteOf(at)))) {
                int sign = byteOf(at);
                if (isLetter(sign)) {
                    letters++;
                    letterValue = packLetter(letterValue, sign);
                } else {
                    digits++;
                    digitValue = 10 * digitValue + sign - '0';
                }
                at++;
            }
            values[tokens] = letters == 0 ? digitValue : letterValue;
            if (letters == 0) {
                return digits <= 3 ? NUMERAL : NOTHING;
            }
            return digits == 0 && letters <= 7 ? kindOfWord(letterValue) : NOTHING;
        }

        private int kindOfWord(long letters) {
            for (int k = 0; k < keywords.length; k++) {
                if (keywords[k] == letters) {
                    return FIRST_KEYWORD + k;
                }
            }
            return NAME;
        }

        private static boolean isLetter(int sign) {
            return sign >= 'a' && sign <= 'z';
        }

        private static boolean isDigit(int sign) {
            return sign >= '0' && sign <= '9';
        }

        private static boolean isSign(int sign) {
            return isIn(sign, ';', '>') || sign == '(' || sign == ')';
        }

        private static long[] packKeywords() {
            long[] packed = new long[KEYWORD_COUNT];
            int k = 0;
            for (int i = 0; i < KEYWORDS.length() && k < KEYWORD_COUNT; i++) {
                if (KEYWORDS.charAt(i) == ' ') {
                    k++;
                } else {
                    packed[k] = packLetter(packed[k], KEYWORDS.charAt(i));
                }
            }
            return packed;
        }
    }

    /** What the DOWNS tell and no act changes. */
    private static final class Downs {
        int wide = 6;
        int high = 6;
        int figures = 0;
        int persons = 0;
        int points = 0;
        final long[] figureName = new long[MOST_FIGURES];
        final int[] quarters = new int[MOST_FIGURES];
        final int[] cells = new int[MOST_FIGURES];
        final long[] personName = new long[MOST_PERSONS];
        final int[] mostBreath = new int[MOST_PERSONS];
        final long[] pointName = new long[MOST_POINTS];
        final int[] pointX = new int[MOST_POINTS];
        final int[] pointY = new int[MOST_POINTS];
        final int[] pointUp = new int[MOST_POINTS];

        void clear() {
            wide = 6;
            high = 6;
            figures = 0;
            persons = 0;
            points = 0;
        }

        void copyFrom(Downs other) {
            wide = other.wide;
            high = other.high;
            figures = other.figures;
            persons = other.persons;
            points = other.points;
            System.arraycopy(other.figureName, 0, figureName, 0, MOST_FIGURES);
            System.arraycopy(other.quarters, 0, quarters, 0, MOST_FIGURES);
            System.arraycopy(other.cells, 0, cells, 0, MOST_FIGURES);
            System.arraycopy(other.personName, 0, personName, 0, MOST_PERSONS);
            System.arraycopy(other.mostBreath, 0, mostBreath, 0, MOST_PERSONS);
            System.arraycopy(other.pointName, 0, pointName, 0, MOST_POINTS);
            System.arraycopy(other.pointX, 0, pointX, 0, MOST_POINTS);
            System.arraycopy(other.pointY, 0, pointY, 0, MOST_POINTS);
            System.arraycopy(other.pointUp, 0, pointUp, 0, MOST_POINTS);
        }

        boolean isInside(int x, int y) {
            return x >= 0 && x < wide && y >= 0 && y < high;
        }

        int cost(int f) {
            return Math.max(1, quarters[f] + cells[f]);
        }

        int standOfPoint(int q) {
            return 4 * cellOf(pointX[q], pointY[q]) + pointUp[q];
        }

        int pointsAt(int x, int y) {
            int bits = 0;
            for (int q = 0; q < points; q++) {
                if (pointX[q] == x && pointY[q] == y) {
                    bits |= 1 << q;
                }
            }
            return bits;
        }

        int figureNamed(long name) {
            return placeOf(name, figureName, figures);
        }

        int personNamed(long name) {
            return placeOf(name, personName, persons);
        }

        int pointNamed(long name) {
            return placeOf(name, pointName, points);
        }

        boolean isNamed(long name) {
            return figureNamed(name) != NONE || personNamed(name) != NONE || pointNamed(name) != NONE;
        }

        private static int placeOf(long name, long[] names, int many) {
            for (int k = 0; k < many && k < names.length; k++) {
                if (names[k] == name) {
                    return k;
                }
            }
            return NONE;
        }
    }

    /** What acts and HOURS change. */
    private static final class State {
        int hour = 0;
        int kicks = 0;
        final int[] walls = new int[GROUND];
        final int[] x = new int[MOST_PERSONS];
        final int[] y = new int[MOST_PERSONS];
        final int[] up = new int[MOST_PERSONS];
        final int[] breath = new int[MOST_PERSONS];
        final int[] came = new int[MOST_PERSONS];
        final int[] spoken = new int[MOST_PERSONS];

        void clear() {
            hour = 0;
            kicks = 0;
            Arrays.fill(walls, 0);
            Arrays.fill(came, 0);
            Arrays.fill(spoken, 0);
        }

        void copyFrom(State other) {
            hour = other.hour;
            kicks = other.kicks;
            System.arraycopy(other.walls, 0, walls, 0, GROUND);
            System.arraycopy(other.x, 0, x, 0, MOST_PERSONS);
            System.arraycopy(other.y, 0, y, 0, MOST_PERSONS);
            System.arraycopy(other.up, 0, up, 0, MOST_PERSONS);
            System.arraycopy(other.breath, 0, breath, 0, MOST_PERSONS);
            System.arraycopy(other.came, 0, came, 0, MOST_PERSONS);
            System.arraycopy(other.spoken, 0, spoken, 0, MOST_PERSONS);
        }
    }

    /** DOWNS with all that is so on them and the SENTENCE, and what can be done there. */
    private static final class World {
        final Downs downs;
        final State state = new State();
        final Sentence sentence = new Sentence();
        private int drawing = 0;

        World(Downs downs) {
            this.downs = downs;
        }

        void clear() {
            downs.clear();
            state.clear();
            sentence.clear();
        }

        void copyFrom(World other) {
            downs.copyFrom(other.downs);
            state.copyFrom(other.state);
            sentence.copyFrom(other.sentence);
        }

        boolean hasFigure(int f) {
            return f >= 0 && f < downs.figures;
        }

        boolean hasPerson(int p) {
            return p >= 0 && p < downs.persons;
        }

        boolean hasPoint(int q) {
            return q >= 0 && q < downs.points;
        }

        int whoIsAt(int x, int y) {
            for (int p = 0; p < downs.persons; p++) {
                if (state.x[p] == x && state.y[p] == y) {
                    return p;
                }
            }
            return NONE;
        }

        int wallAt(int x, int y) {
            return downs.isInside(x, y) ? state.walls[cellOf(x, y)] : 0;
        }

        int whyNotSay(int p, int f, int side) {
            if (state.breath[p] < downs.cost(f)) {
                return 1;
            }
            int why = 0;
            for (int k = 1; k <= downs.cells[f]; k++) {
                int bar = whatBars(state.x[p] + k * STEP_X[side], state.y[p] + k * STEP_Y[side]);
                if (bar != 0 && (why == 0 || bar < why)) {
                    why = bar;
                }
            }
            return why;
        }

        private int whatBars(int x, int y) {
            if (!downs.isInside(x, y)) {
                return 2;
            }
            if (state.walls[cellOf(x, y)] > 0) {
                return 3;
            }
            return whoIsAt(x, y) == NONE ? 0 : 4;
        }

        void doSay(int p, int f, int side) {
            state.x[p] += downs.cells[f] * STEP_X[side];
            state.y[p] += downs.cells[f] * STEP_Y[side];
            state.up[p] = (state.up[p] + downs.quarters[f]) & 3;
            state.breath[p] -= downs.cost(f);
            state.spoken[p]++;
            bringUpPoints(p);
        }

        void bringUpPoints(int p) {
            for (int q = 0; q < downs.points; q++) {
                if (downs.pointX[q] == state.x[p] && downs.pointY[q] == state.y[p]
                        && downs.pointUp[q] == state.up[p]) {
                    state.came[p] |= 1 << q;
                }
            }
        }

        int whyNotKick(int p, int side) {
            if (state.breath[p] == 0) {
                return 1;
            }
            return wallAt(state.x[p] + STEP_X[side], state.y[p] + STEP_Y[side]) > 0 ? 0 : 2;
        }

        void doKick(int p, int side) {
            int x = state.x[p] + STEP_X[side];
            int y = state.y[p] + STEP_Y[side];
            if (downs.isInside(x, y)) {
                state.walls[cellOf(x, y)]--;
                state.breath[p]--;
                state.kicks++;
            }
        }

        int whyNotRest(int p) {
            return state.breath[p] == downs.mostBreath[p] ? 1 : 0;
        }

        void doRest(int p) {
            state.breath[p] = downs.mostBreath[p];
        }

        int hoursLeft() {
            return ALL_HOURS - state.hour;
        }

        void passHours(int n) {
            for (int p = 0; p < downs.persons; p++) {
                state.breath[p] = Math.min(downs.mostBreath[p], state.breath[p] + n);
            }
            state.hour += n;
        }

        int sayIfCan(int p, int f, int side) {
            int why = whyNotSay(p, f, side);
            if (why == 0) {
                doSay(p, f, side);
            }
            return why;
        }

        int kickIfCan(int p, int side) {
            int why = whyNotKick(p, side);
            if (why == 0) {
                doKick(p, side);
            }
            return why;
        }

        int restIfCan(int p) {
            int why = whyNotRest(p);
            if (why == 0) {
                doRest(p);
            }
            return why;
        }

        void drawHours(int n, int seed) {
            drawing = seed;
            for (int k = 0; k < n; k++) {
                for (int p = 0; p < downs.persons; p++) {
                    drawAct(p);
                }
                passHours(1);
            }
        }

        private void drawAct(int p) {
            int act = draw(8);
            if (act < 4) {
                if (downs.figures > 0) {
                    sayIfCan(p, draw(downs.figures), act);
                }
            } else if (act < 6) {
                kickIfCan(p, draw(4));
            } else if (act == 6) {
                restIfCan(p);
            }
        }

        private int draw(int n) {
            drawing = drawing * 1103515245 + 12345;
            return n > 0 ? (drawing >>> 8) % n : 0;
        }

        int whoIsSpent() {
            int bits = 0;
            for (int p = 0; p < downs.persons; p++) {
                if (state.breath[p] == 0) {
                    bits |= 1 << p;
                }
            }
            return bits;
        }

        boolean isSettled(int p) {
            return state.came[p] == (1 << downs.points) - 1;
        }

        int whoIsSettled() {
            int bits = 0;
            for (int p = 0; p < downs.persons; p++) {
                if (isSettled(p)) {
                    bits |= 1 << p;
                }
            }
            return bits;
        }

        int whoIsUpright() {
            int bits = 0;
            for (int p = 0; p < downs.persons; p++) {
                if (state.up[p] == 0) {
                    bits |= 1 << p;
                }
            }
            return bits;
        }

        int forWhomCame(int q) {
            int bits = 0;
            for (int p = 0; p < downs.persons; p++) {
                bits |= (state.came[p] >> q & 1) << p;
            }
            return bits;
        }

        int allBreath() {
            return sumOf(state.breath, downs.persons);
        }

        int allSpoken() {
            return sumOf(state.spoken, downs.persons);
        }

        int allWalls() {
            return sumOf(state.walls, GROUND);
        }

        private static int sumOf(int[] row, int many) {
            int sum = 0;
            for (int k = 0; k < many && k < row.length; k++) {
                sum += row[k];
            }
            return sum;
        }

        int whoHasLeast() {
            if (downs.persons == 0) {
                return NONE;
            }
            int least = 0;
            for (int p = 1; p < downs.persons; p++) {
                if (state.breath[p] * downs.mostBreath[least] < state.breath[least] * downs.mostBreath[p]) {
                    least = p;
                }
            }
            return least;
        }

        boolean isBeside(int p, int o) {
            return Math.abs(state.x[p] - state.x[o]) + Math.abs(state.y[p] - state.y[o]) == 1;
        }
    }

    /** Reads DOWNS into a draft, so that a FAULT leaves those that are. */
    private static final class DownsText {
        final World draft = new World(new Downs());
        private final Tape tape;
        private boolean sized = false;
        private boolean placed = false;

        DownsText(Tape tape) {
            this.tape = tape;
        }

        int read() {
            draft.clear();
            sized = false;
            placed = false;
            tape.begin(MOST_DOWNS);
            tape.next();
            int lines = 0;
            while (tape.kind != END && lines < MOST_DOWNS) {
                if (!readLine() || !tape.wantKind(';')) {
                    return NONE;
                }
                lines++;
                tape.next();
            }
            for (int p = 0; p < draft.downs.persons; p++) {
                draft.bringUpPoints(p);
            }
            return lines;
        }

        private boolean readLine() {
            switch (tape.kind) {
                case DOWNS:
                    return readSize();
                case WALL:
                    return readWall();
                case FIGURE:
                    return readFigure();
                case PERSON:
                    return readPerson();
                case POINT:
                    return readPoint();
                default:
                    return tape.refuse(NO_TOKEN);
            }
        }

        private boolean readSize() {
            if (sized || placed) {
                return tape.refuse(BAD_NAME);
            }
            sized = true;
            if (!tape.wantNumeral(2, MOST_SIDE)) {
                return false;
            }
            draft.downs.wide = tape.numeral;
            if (!tape.wantNumeral(2, MOST_SIDE)) {
                return false;
            }
            draft.downs.high = tape.numeral;
            return true;
        }

        private boolean readWall() {
            placed = true;
            if (!tape.wantNumeral(0, draft.downs.wide - 1)) {
                return false;
            }
            int x = tape.numeral;
            if (!wantFreeY(x)) {
                return false;
            }
            int y = tape.numeral;
            if (!tape.wantNumeral(1, 9)) {
                return false;
            }
            draft.state.walls[cellOf(x, y)] = tape.numeral;
            return true;
        }

        private boolean readFigure() {
            Downs downs = draft.downs;
            int f = downs.figures;
            if (f >= MOST_FIGURES) {
                return tape.refuse(TOO_MANY);
            }
            if (!wantNewName()) {
                return false;
            }
            downs.figureName[f] = tape.word;
            if (!tape.wantNumeral(0, 7)) {
                return false;
            }
            downs.quarters[f] = tape.numeral;
            if (!tape.wantNumeral(0, MOST_CELLS)) {
                return false;
            }
            downs.cells[f] = tape.numeral;
            downs.figures++;
            return true;
        }

        private boolean readPerson() {
            placed = true;
            int p = draft.downs.persons;
            if (p >= MOST_PERSONS) {
                return tape.refuse(TOO_MANY);
            }
            if (!wantNewName()) {
                return false;
            }
            draft.downs.personName[p] = tape.word;
            if (!tape.wantNumeral(0, draft.downs.wide - 1)) {
                return false;
            }
            draft.state.x[p] = tape.numeral;
            if (!wantFreeY(tape.numeral)) {
                return false;
            }
            draft.state.y[p] = tape.numeral;
            if (!tape.wantNumeral(0, 3)) {
                return false;
            }
            draft.state.up[p] = tape.numeral;
            if (!tape.wantNumeral(1, 60)) {
                return false;
            }
            draft.state.breath[p] = tape.numeral;
            draft.downs.mostBreath[p] = tape.numeral;
            draft.downs.persons++;
            return true;
        }

        private boolean readPoint() {
            placed = true;
            Downs downs = draft.downs;
            int q = downs.points;
            if (q >= MOST_POINTS) {
                return tape.refuse(TOO_MANY);
            }
            if (!wantNewName()) {
                return false;
            }
            downs.pointName[q] = tape.word;
            if (!tape.wantNumeral(0, downs.wide - 1)) {
                return false;
            }
            downs.pointX[q] = tape.numeral;
            if (!tape.wantNumeral(0, downs.high - 1)) {
                return false;
            }
            downs.pointY[q] = tape.numeral;
            if (!tape.wantNumeral(0, 3)) {
                return false;
            }
            downs.pointUp[q] = tape.numeral;
            downs.points++;
            return true;
        }

        private boolean wantNewName() {
            if (!tape.wantKind(NAME)) {
                return false;
            }
            return !draft.downs.isNamed(tape.word) || tape.refuse(BAD_NAME);
        }

        private boolean wantFreeY(int x) {
            if (!tape.wantNumeral(0, draft.downs.high - 1)) {
                return false;
            }
            boolean free = draft.wallAt(x, tape.numeral) == 0 && draft.whoIsAt(x, tape.numeral) == NONE;
            return free || tape.refuse(BAD_NAME);
        }
    }

    /** A BOOK as it was read last, and what came of the latest one that was judged. */
    private static final class Book {
        boolean judged = false;
        int why = 0;
        int right = 0;
        int hour = 0;
        int settled = 0;
        private final Tape tape;
        private final int[] deeds = new int[MOST_LINES];
        private final int[] persons = new int[MOST_LINES];
        private final int[] figures = new int[MOST_LINES];
        private final int[] sides = new int[MOST_LINES];
        private final int[] spans = new int[MOST_LINES];
        private int lines = 0;

        Book(Tape tape) {
            this.tape = tape;
        }

        boolean read(Downs downs) {
            lines = 0;
            tape.begin(MOST_BOOK);
            tape.next();
            for (int k = 0; k <= MOST_LINES && tape.kind != END; k++) {
                if (!readLine(downs) || !tape.wantKind(';')) {
                    return false;
                }
                lines++;
                tape.next();
            }
            return true;
        }

        private boolean readLine(Downs downs) {
            if (tape.kind != NAME && tape.kind != HOUR) {
                return tape.refuse(NO_TOKEN);
            }
            boolean passes = tape.kind == HOUR;
            int p = passes ? NONE : downs.personNamed(tape.word);
            if (!passes && p == NONE) {
                return tape.refuse(BAD_NAME);
            }
            if (lines >= MOST_LINES) {
                return tape.refuse(TOO_MANY);
            }
            persons[lines] = p;
            return passes ? readHours() : readDeed(downs);
        }

        private boolean readHours() {
            deeds[lines] = HOUR;
            if (!tape.wantNumeral(1, MOST_HOURS)) {
                return false;
            }
            spans[lines] = tape.numeral;
            return true;
        }

        private boolean readDeed(Downs downs) {
            tape.next();
            deeds[lines] = tape.kind;
            switch (tape.kind) {
                case SAYS:
                    return readFigure(downs) && readSide();
                case KICKS:
                    return readSide();
                case RESTS:
                    return true;
                default:
                    return tape.refuse(NO_TOKEN);
            }
        }

        private boolean readFigure(Downs downs) {
            if (!tape.wantKind(NAME)) {
                return false;
            }
            figures[lines] = downs.figureNamed(tape.word);
            return figures[lines] != NONE || tape.refuse(BAD_NAME);
        }

        private boolean readSide() {
            if (!tape.wantSide()) {
                return false;
            }
            sides[lines] = tape.kind - EAST;
            return true;
        }

        void judge(World world) {
            why = 0;
            right = 0;
            for (int line = 0; line < lines && why == 0; line++) {
                why = live(world, line);
                if (why == 0) {
                    right++;
                }
            }
            hour = world.state.hour;
            settled = world.whoIsSettled();
            judged = true;
        }

        private int live(World world, int line) {
            switch (deeds[line]) {
                case SAYS:
                    return world.sayIfCan(persons[line], figures[line], sides[line]);
                case KICKS:
                    return behind(10, world.kickIfCan(persons[line], sides[line]));
                case RESTS:
                    return behind(20, world.restIfCan(persons[line]));
                default:
                    return passIfCan(world, spans[line]);
            }
        }

        private static int behind(int base, int reason) {
            return reason == 0 ? 0 : base + reason;
        }

        private static int passIfCan(World world, int span) {
            if (span > world.hoursLeft()) {
                return 31;
            }
            world.passHours(span);
            return 0;
        }
    }

    /** A SENTENCE, kept so that what is joined stands ahead of what joins it; without ONES there is none. */
    private static final class Sentence {
        int ones = 0;
        private int length = 0;
        private final int[] kinds = new int[2 * MOST_ONES];
        private final int[] signs = new int[2 * MOST_ONES];
        private final int[] values = new int[2 * MOST_ONES];
        private final boolean[] stack = new boolean[2 * MOST_ONES];

        void clear() {
            ones = 0;
            length = 0;
        }

        void copyFrom(Sentence other) {
            ones = other.ones;
            length = other.length;
            System.arraycopy(other.kinds, 0, kinds, 0, kinds.length);
            System.arraycopy(other.signs, 0, signs, 0, signs.length);
            System.arraycopy(other.values, 0, values, 0, values.length);
        }

        boolean read(Tape tape, Downs downs) {
            clear();
            tape.begin(MOST_SENTENCE);
            tape.next();
            return readCond(tape, downs, 1) && (tape.kind == END || tape.refuse(NO_TOKEN));
        }

        private boolean readCond(Tape tape, Downs downs, int depth) {
            if (!readAll(tape, downs, depth)) {
                return false;
            }
            for (int k = 0; k < MOST_ONES && tape.kind == OR; k++) {
                tape.next();
                if (!readAll(tape, downs, depth)) {
                    return false;
                }
                add(OR, 0, 0);
            }
            return true;
        }

        private boolean readAll(Tape tape, Downs downs, int depth) {
            if (!readOne(tape, downs, depth)) {
                return false;
            }
            for (int k = 0; k < MOST_ONES && tape.kind == AND; k++) {
                tape.next();
                if (!readOne(tape, downs, depth)) {
                    return false;
                }
                add(AND, 0, 0);
            }
            return true;
        }

        private boolean readOne(Tape tape, Downs downs, int depth) {
            int kind = tape.kind;
            if (kind != '(' && !isIn(kind, NOT, NUMBER)) {
                return tape.refuse(NO_TOKEN);
            }
            if (ones >= MOST_ONES || depth > MOST_WITHIN) {
                return tape.refuse(TOO_MANY);
            }
            ones++;
            switch (kind) {
                case NOT:
                    return readNot(tape, downs, depth);
                case '(':
                    return readBracket(tape, downs, depth);
                case HAS:
                case BY:
                    return readNamed(tape, downs, kind);
                case BREATH:
                case UP:
                case SAID:
                case NUMBER:
                    return readCompared(tape, kind);
                default:
                    add(kind, 0, 0);
                    tape.next();
                    return true;
            }
        }

        private boolean readNot(Tape tape, Downs downs, int depth) {
            tape.next();
            if (!readOne(tape, downs, depth + 1)) {
                return false;
            }
            add(NOT, 0, 0);
            return true;
        }

        private boolean readBracket(Tape tape, Downs downs, int depth) {
            tape.next();
            if (!readCond(tape, downs, depth + 1)) {
                return false;
            }
            if (tape.kind != ')') {
                return tape.refuse(NO_TOKEN);
            }
            tape.next();
            return true;
        }

        private boolean readNamed(Tape tape, Downs downs, int kind) {
            if (!tape.wantKind(NAME)) {
                return false;
            }
            int named = kind == HAS ? downs.pointNamed(tape.word) : downs.personNamed(tape.word);
            if (named == NONE) {
                return tape.refuse(BAD_NAME);
            }
            add(kind, 0, named);
            tape.next();
            return true;
        }

        private boolean readCompared(Tape tape, int kind) {
            tape.next();
            int sign = tape.kind;
            if (!isIn(sign, '<', '>')) {
                return tape.refuse(NO_TOKEN);
            }
            if (!tape.wantKind(NUMERAL)) {
                return false;
            }
            add(kind, sign, tape.numeral);
            tape.next();
            return true;
        }

        private void add(int kind, int sign, int value) {
            if (length < kinds.length) {
                kinds[length] = kind;
                signs[length] = sign;
                values[length] = value;
                length++;
            }
        }

        boolean holdsFor(World world, int p) {
            int top = 0;
            for (int k = 0; k < length; k++) {
                int kind = kinds[k];
                if (kind == NOT) {
                    if (top >= 1) {
                        stack[top - 1] = !stack[top - 1];
                    }
                } else if (kind == AND || kind == OR) {
                    if (top >= 2) {
                        top--;
                        stack[top - 1] = join(kind, stack[top - 1], stack[top]);
                    }
                } else if (top < stack.length) {
                    stack[top] = plainHolds(world, p, k);
                    top++;
                }
            }
            return top >= 1 && stack[0];
        }

        private static boolean join(int kind, boolean one, boolean other) {
            return kind == AND ? one && other : one || other;
        }

        private boolean plainHolds(World world, int p, int k) {
            State state = world.state;
            switch (kinds[k]) {
                case UPRIGHT:
                    return state.up[p] == 0;
                case SPENT:
                    return state.breath[p] == 0;
                case SETTLED:
                    return world.isSettled(p);
                case HAS:
                    return (state.came[p] >> values[k] & 1) == 1;
                case BY:
                    return world.isBeside(p, values[k]);
                case BREATH:
                    return compares(state.breath[p], k);
                case UP:
                    return compares(state.up[p], k);
                case SAID:
                    return compares(state.spoken[p], k);
                default:
                    return compares(p, k);
            }
        }

        private boolean compares(int number, int k) {
            if (signs[k] == '<') {
                return number < values[k];
            }
            return signs[k] == '>' ? number > values[k] : number == values[k];
        }
    }

    /** Where one PERSON can come, breadth first; a stand is a cell and a way up. */
    private static final class Search {
        final int[] far = new int[STANDS];
        final int[] path = new int[STANDS];
        int length = 0;
        private final boolean[] shut = new boolean[GROUND];
        private final int[] runs = new int[STANDS];
        private final int[] from = new int[STANDS];
        private final int[] moves = new int[STANDS];
        private final int[] queue = new int[STANDS];
        private int queued = 0;

        void spread(World world, int p, int absent) {
            shutCells(world, p, absent);
            measureRuns(world.downs);
            Arrays.fill(far, NONE);
            int start = 4 * cellOf(world.state.x[p], world.state.y[p]) + world.state.up[p];
            far[start] = 0;
            queue[0] = start;
            queued = 1;
            // Taking stands and moves in order makes the first way found the first of like ones.
            for (int head = 0; head < queued && head < STANDS; head++) {
                goOn(world.downs, queue[head]);
            }
        }

        private void shutCells(World world, int p, int absent) {
            for (int cell = 0; cell < GROUND; cell++) {
                shut[cell] = world.state.walls[cell] > 0;
            }
            for (int o = 0; o < world.downs.persons; o++) {
                if (o != p && o != absent) {
                    shut[cellOf(world.state.x[o], world.state.y[o])] = true;
                }
            }
        }

        /** How many cells are free from each cell on to each SIDE, as far as a FIGURE can go. */
        private void measureRuns(Downs downs) {
            for (int y = 0; y < downs.high; y++) {
                for (int x = 0; x < downs.wide; x++) {
                    for (int side = 0; side < 4; side++) {
                        runs[4 * cellOf(x, y) + side] = runFrom(downs, x, y, side);
                    }
                }
            }
        }

        private int runFrom(Downs downs, int x, int y, int side) {
            int run = 0;
            for (int k = 1; k <= MOST_CELLS; k++) {
                int nextX = x + k * STEP_X[side];
                int nextY = y + k * STEP_Y[side];
                if (!downs.isInside(nextX, nextY) || shut[cellOf(nextX, nextY)]) {
                    return run;
                }
                run = k;
            }
            return run;
        }

        private void goOn(Downs downs, int stand) {
            int cell = stand >> 2;
            for (int f = 0; f < downs.figures; f++) {
                int up = (stand + downs.quarters[f]) & 3;
                for (int side = 0; side < 4; side++) {
                    if (downs.cells[f] <= runs[4 * cell + side]) {
                        int there = cell + downs.cells[f] * cellOf(STEP_X[side], STEP_Y[side]);
                        reach(4 * there + up, stand, 4 * f + side);
                    }
                }
            }
        }

        private void reach(int stand, int before, int move) {
            if (far[stand] == NONE && queued < STANDS) {
                far[stand] = far[before] + 1;
                from[stand] = before;
                moves[stand] = move;
                queue[queued] = stand;
                queued++;
            }
        }

        int keepWayTo(int goal) {
            if (far[goal] == NONE) {
                return NONE;
            }
            length = far[goal];
            int stand = goal;
            for (int k = length - 1; k >= 0; k--) {
                path[k] = moves[stand];
                stand = from[stand];
            }
            return length;
        }

        int countCells() {
            int many = 0;
            for (int cell = 0; cell < GROUND; cell++) {
                boolean seen = false;
                for (int up = 0; up < 4; up++) {
                    seen = seen || far[4 * cell + up] != NONE;
                }
                if (seen) {
                    many++;
                }
            }
            return many;
        }
    }

    /** By which FIGURES one is as he was ahead of another one. */
    private static final class Undoing {
        final int[] path = new int[MOST_UNDOES];
        int length = 0;
        private final int[] tried = new int[MOST_UNDOES];

        int find(Downs downs, int f) {
            for (int many = 1; many <= MOST_UNDOES; many++) {
                if (comesBack(downs, tried, downs.cells[f], 0, downs.quarters[f], 0, many)) {
                    System.arraycopy(tried, 0, path, 0, many);
                    length = many;
                    return many;
                }
            }
            return NONE;
        }

        private static boolean comesBack(Downs downs, int[] tried, int x, int y, int turned, int step, int many) {
            if (step >= many || step >= tried.length) {
                return x == 0 && y == 0 && (turned & 3) == 0;
            }
            // What lies farther off than the steps left can bring back needs no trying.
            if (Math.abs(x) + Math.abs(y) > MOST_CELLS * (many - step)) {
                return false;
            }
            for (int move = 0; move < 4 * downs.figures; move++) {
                int f = move >> 2;
                int nextX = x + downs.cells[f] * STEP_X[move & 3];
                int nextY = y + downs.cells[f] * STEP_Y[move & 3];
                tried[step] = move;
                if (comesBack(downs, tried, nextX, nextY, turned + downs.quarters[f], step + 1, many)) {
                    return true;
                }
            }
            return false;
        }
    }

    /** The latest track that can have been gone, step by step. */
    private static final class Tracks {
        final int[] first = new int[MOST_STEPS];
        int steps = 0;
        private final int[] choices = new int[MOST_STEPS];
        private final int[] triedFirst = new int[MOST_STEPS];
        private final int[] triedChoices = new int[MOST_STEPS];

        int follow(Tape tape, Downs downs) {
            int cells = tape.size / 2;
            if (tape.size % 2 != 0 || !isIn(cells, 2, MOST_STEPS + 1)) {
                return NONE;
            }
            for (int k = 0; k < cells; k++) {
                if (!downs.isInside(tape.byteOf(2 * k), tape.byteOf(2 * k + 1))) {
                    return NONE;
                }
            }
            int ways = 1;
            for (int k = 0; k < cells - 1; k++) {
                tryStep(downs, k, tape.byteOf(2 * k + 2) - tape.byteOf(2 * k),
                    tape.byteOf(2 * k + 3) - tape.byteOf(2 * k + 1));
                ways *= triedChoices[k];
            }
            if (ways > 0) {
                keep(cells - 1);
            }
            return ways;
        }

        private void tryStep(Downs downs, int step, int alongX, int alongY) {
            int many = 0;
            for (int move = 4 * downs.figures - 1; move >= 0; move--) {
                int cells = downs.cells[move >> 2];
                int side = move & 3;
                if (cells * STEP_X[side] == alongX && cells * STEP_Y[side] == alongY) {
                    triedFirst[step] = move;
                    many++;
                }
            }
            triedChoices[step] = many;
        }

        private void keep(int many) {
            steps = many;
            System.arraycopy(triedFirst, 0, first, 0, MOST_STEPS);
            System.arraycopy(triedChoices, 0, choices, 0, MOST_STEPS);
        }

        int stepOfMost() {
            if (steps == 0) {
                return NONE;
            }
            int most = 0;
            for (int k = 1; k < steps; k++) {
                if (choices[k] > choices[most]) {
                    most = k;
                }
            }
            return most;
        }
    }

    /** States ahead of the latest acts, in a ring: a ninth act takes the place of the oldest. */
    private static final class History {
        private final State[] states = new State[MOST_UNDONE];
        private int next = 0;
        private int kept = 0;

        History() {
            for (int k = 0; k < MOST_UNDONE; k++) {
                states[k] = new State();
            }
        }

        void clear() {
            kept = 0;
        }

        void keep(State state) {
            states[next].copyFrom(state);
            next = (next + 1) % MOST_UNDONE;
            kept = Math.min(MOST_UNDONE, kept + 1);
        }

        int takeBack(State state) {
            if (kept == 0) {
                return NONE;
            }
            next = (next + MOST_UNDONE - 1) % MOST_UNDONE;
            state.copyFrom(states[next]);
            kept--;
            return kept;
        }
    }
}
