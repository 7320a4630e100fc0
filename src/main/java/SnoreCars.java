import java.util.Arrays;

/**
 * The sleeper train to the coast, made up each evening by the pitch at which its passengers snore. The
 * words in capitals of the document stand here in small letters; a set is a whole number, bit k for k.
 *
 * <p>All rows are made with the object and used again by every call. What is tried is tried on rows
 * of its own, so that nothing that is so has to be put back.
 */
public final class SnoreCars {
    public static final int NONE = -1, UNKNOWN = -1000000001, OUTSIDE = -1000000002, NOT = -1000000003, FULL = -1000000004;

    private static final int MOST_LETTERS = 240, LAST_LETTER = 255;
    private static final int MOST_CARS = 4, MOST_BERTHS = 8, MOST_SLEEPERS = 8, MOST_COUPLES = 4;
    private static final int HOURS = 12, PITCHES = 12, LAST_INTERVAL = 6, MOST_LOUD = 9, MOST_DEPTH = 40;
    private static final int CREWS = 1 << MOST_SLEEPERS, LAWS = 1 << (LAST_INTERVAL + 1);
    private static final int UNTOLD_LAW = 1 | 1 << 3 | 1 << 4 | 1 << 5;
    private static final int MOST_UNDONE = 20, IMAGES = 2, MOST_ENTRIES = 15;
    private static final int BILLION = 1000000000, HUNDRED = 100;
    private static final long SEED_TIMES = 1103515245, SEED_AND = 12345, LAST_SEED = 2147483647;
    private static final int SEED_PARTS = 65536;
    private static final int LULL_DRAW = 5, MOST_MAKINGS_UP = 1 << (2 * MOST_SLEEPERS);
    private static final int MOST_PUTS = MOST_SLEEPERS * (MOST_CARS - 1);
    private static final int MOST_STEPS = MOST_PUTS + MOST_SLEEPERS * (MOST_SLEEPERS - 1) / 2;

    private final Text text;
    private Train train;
    private Train spare;
    private int faultPlace;
    private final Ear ear;
    private final Ear trialEar;
    private final Night night;
    private final Night trialNight;
    private final Shelf undone;
    private int oldestUndone;
    private int manyUndone;
    private final Shelf images;
    private int keptImages;
    private final int[] entrySleepers;
    private final int[] entryAwake;
    private int entries;
    private final MakingUp makingUp;
    private final Shunting shunting;

    public SnoreCars() {
        text = new Text();
        train = new Train();
        spare = new Train();
        faultPlace = NONE;
        ear = new Ear();
        trialEar = new Ear();
        night = new Night();
        trialNight = new Night();
        undone = new Shelf(MOST_UNDONE);
        images = new Shelf(IMAGES);
        entrySleepers = new int[MOST_ENTRIES];
        entryAwake = new int[MOST_ENTRIES];
        makingUp = new MakingUp();
        shunting = new Shunting();
    }

    // ---- the train

    public int feed(int letter) {
        if (letter < 0 || letter > LAST_LETTER) {
            return OUTSIDE;
        }
        return text.add(letter) ? text.length : FULL;
    }

    public int train() {
        int fault = text.read(spare);
        faultPlace = fault == 0 ? NONE : text.faultPlace;
        text.length = 0;
        if (fault != 0) {
            return -10 - fault;
        }
        Train read = spare;
        spare = train;
        train = read;
        ear.listen(train);
        ear.tune(train.law);
        night.begin();
        makingUp.known = false;
        entries = 0;
        keptImages = 0;
        manyUndone = 0;
        return train.cars;
    }

    public int fault() {
        return faultPlace;
    }

    public int told(int what) {
        switch (what) {
            case 0:
                return train.cars;
            case 1:
                return train.sleepers;
            case 2:
                return train.couples;
            case 3:
                return train.law;
            case 4:
                return text.length;
            case 5:
                return night.hour;
            case 6:
                return night.awake;
            case 7:
                return allSleepers() & ~night.inCars();
            case 8:
                return entries;
            case 9:
                return manyUndone;
            default:
                return OUTSIDE;
        }
    }

    public int car(int k, int what) {
        if (isNoCar(k)) {
            return UNKNOWN;
        }
        switch (what) {
            case 0:
                return at(train.berths, k);
            case 1:
                return at(night.crews, k);
            case 2:
                return ear.isOutOfTune(snorersNow(k)) ? 1 : 0;
            default:
                return OUTSIDE;
        }
    }

    public int sleeper(int s, int what) {
        if (isNoSleeper(s)) {
            return UNKNOWN;
        }
        switch (what) {
            case 0:
                return at(train.pitch, s);
            case 1:
                return at(train.loud, s);
            case 2:
                return at(train.depth, s);
            case 3:
                return at(train.from, s);
            case 4:
                return at(train.to, s);
            case 5:
                return carOf(night.crews, s);
            case 6:
                return night.awake >> s & 1;
            case 7:
                return at(train.mate, s);
            case 8:
                return noiseNow(s);
            default:
                return OUTSIDE;
        }
    }

    public int interval(int a, int b) {
        if (isNoSleeper(a) || isNoSleeper(b) || a == b) {
            return UNKNOWN;
        }
        return apart(at(train.pitch, a), at(train.pitch, b));
    }

    // ---- what is done

    public int put(int s, int k) {
        if (isNoSleeper(s) || isNoCar(k)) {
            return UNKNOWN;
        }
        int was = carOf(night.crews, s);
        if (was == k || isFull(train, night.crews, k)) {
            return NOT;
        }
        remember();
        night.lead(s, k);
        return was;
    }

    public int off(int s) {
        if (isNoSleeper(s)) {
            return UNKNOWN;
        }
        int was = carOf(night.crews, s);
        if (was == NONE) {
            return NOT;
        }
        remember();
        night.lead(s, NONE);
        return was;
    }

    public int hour(int n) {
        if (n < 1 || n > HOURS) {
            return OUTSIDE;
        }
        if (train.cars == 0 || night.hour >= HOURS) {
            return NOT;
        }
        remember();
        for (int i = 0; i < n && night.hour < HOURS; i++) {
            passAnHour();
        }
        return night.hour;
    }

    public int evening() {
        if (train.cars == 0) {
            return NOT;
        }
        remember();
        int were = Integer.bitCount(night.awake);
        night.hour = 0;
        night.awake = 0;
        return were;
    }

    public int drift(int n) {
        if (n < 1 || n > HOURS) {
            return OUTSIDE;
        }
        if (train.cars == 0 || train.sleepers == 0 || night.hour >= HOURS) {
            return NOT;
        }
        remember();
        for (int i = 0; i < n && night.hour < HOURS; i++) {
            if (night.draw(LULL_DRAW) == 0) {
                night.awake &= ~(1 << night.draw(train.sleepers));
            }
            passAnHour();
        }
        return night.hour;
    }

    public int undo() {
        if (manyUndone == 0) {
            return NOT;
        }
        manyUndone--;
        int seedStays = night.seed;
        undone.take((oldestUndone + manyUndone) % MOST_UNDONE, night);
        night.seed = seedStays;
        return manyUndone;
    }

    // ---- tried

    public int wake() {
        return ear.morning(night.crews, night.awake, night.hour);
    }

    public int shunted(int what) {
        if (what < 0 || what > 1) {
            return OUTSIDE;
        }
        int awake = night.awake;
        for (int h = night.hour; h < HOURS; h++) {
            for (int k = 0; k < train.cars; k++) {
                if (ear.isOutOfTune(ear.snorers(at(night.crews, k), awake, h))) {
                    return what == 0 ? h : k;
                }
            }
            awake = ear.afterHour(night.crews, awake, h);
        }
        return NONE;
    }

    public int madeUp(int s) {
        if (s != NONE && isNoSleeper(s)) {
            return UNKNOWN;
        }
        if (!makingUp.known) {
            makingUp.search(train, ear);
        }
        return s == NONE || makingUp.fewest == NONE ? makingUp.fewest : carOf(makingUp.best, s);
    }

    public int moves(int i) {
        if (i < NONE) {
            return NONE;
        }
        int many = shunting.fewest(train, ear, night);
        if (i == NONE) {
            return many;
        }
        return i < many ? at(shunting.codes, i) : NONE;
    }

    public int laws(int set, int what) {
        if (isNoSet(set)) {
            return UNKNOWN;
        }
        if (what < 0 || what > 1) {
            return OUTSIDE;
        }
        int many = 0;
        int best = NONE;
        trialEar.listen(train);
        for (int law = 0; law < LAWS; law++) {
            trialEar.tune(law);
            if (trialEar.morning(night.crews, 0, 0) == set) {
                many++;
                if (best == NONE || Integer.bitCount(law) < Integer.bitCount(best)) {
                    best = law;
                }
            }
        }
        return what == 0 ? many : best;
    }

    public int pitches(int s, int set, int what) {
        if (isNoSleeper(s) || isNoSet(set)) {
            return UNKNOWN;
        }
        if (what < 0 || what > 1) {
            return OUTSIDE;
        }
        int fits = 0;
        trialEar.listen(train);
        for (int p = 0; p < PITCHES; p++) {
            lay(trialEar.pitch, s, p);
            trialEar.tune(train.law);
            if (trialEar.morning(night.crews, 0, 0) == set) {
                fits |= 1 << p;
            }
        }
        return what == 0 ? fits : testPitch(fits);
    }

    public int bestCar(int s, int what) {
        if (isNoSleeper(s)) {
            return UNKNOWN;
        }
        if (what < 0 || what > 1) {
            return OUTSIDE;
        }
        int own = carOf(night.crews, s);
        int best = NONE;
        int fewest = 0;
        int most = 0;
        for (int k = 0; k < train.cars; k++) {
            if (k == own || !isFull(train, night.crews, k)) {
                trialNight.lieAs(night);
                trialNight.lead(s, k);
                int woken = Integer.bitCount(ear.morning(trialNight.crews, 0, 0));
                most = Math.max(most, woken);
                if (best == NONE || woken < fewest) {
                    best = k;
                    fewest = woken;
                }
            }
        }
        return what == 0 || best == NONE ? best : most - fewest;
    }

    public int alike(int a, int b) {
        if (isNoCar(a) || isNoCar(b) || a == b) {
            return UNKNOWN;
        }
        for (int d = 0; d < PITCHES; d++) {
            if (isAlikeBy(at(night.crews, a), at(night.crews, b), d)) {
                return d;
            }
        }
        return NONE;
    }

    public int sounds(int k, int h, int what) {
        if (isNoCar(k)) {
            return UNKNOWN;
        }
        if (h < 0 || h >= HOURS || what < 0 || what > 2) {
            return OUTSIDE;
        }
        int snorers = ear.snorers(at(night.crews, k), night.awake, h);
        if (what == 1) {
            return loudOf(snorers);
        }
        int chord = chordOf(snorers);
        return what == 0 ? chord : leastOf(chord);
    }

    public int cold(int set, int q) {
        if (isNoSet(set)) {
            return UNKNOWN;
        }
        if (q < 0 || q > HUNDRED) {
            return OUTSIDE;
        }
        long odds = BILLION;
        for (int s = 0; s < train.sleepers; s++) {
            if ((set >> s & 1) == 1) {
                odds = odds * (HUNDRED - q) / HUNDRED;
            }
        }
        return (int) odds;
    }

    // ---- books, images

    public int write(int s, boolean awake) {
        if (isNoSleeper(s)) {
            return UNKNOWN;
        }
        if (entries >= MOST_ENTRIES) {
            return FULL;
        }
        lay(entrySleepers, entries, s);
        lay(entryAwake, entries, awake ? 1 : 0);
        entries++;
        return entries;
    }

    public int tear() {
        int had = entries;
        entries = 0;
        return had;
    }

    public int judge() {
        int woken = wake();
        for (int e = 0; e < entries; e++) {
            if ((woken >> at(entrySleepers, e) & 1) != at(entryAwake, e)) {
                return e;
            }
        }
        return NONE;
    }

    public int seed(int v) {
        if (v < 0) {
            return OUTSIDE;
        }
        int was = night.seed;
        night.seed = v;
        return was;
    }

    public int keep(int i) {
        if (i < 0 || i >= IMAGES) {
            return UNKNOWN;
        }
        images.store(i, night);
        keptImages |= 1 << i;
        manyUndone = 0;
        return 1;
    }

    public int goBack(int i) {
        if (i < 0 || i >= IMAGES) {
            return UNKNOWN;
        }
        if ((keptImages >> i & 1) == 0) {
            return NOT;
        }
        images.take(i, night);
        manyUndone = 0;
        return 1;
    }

    // ---- what the calls share

    private boolean isNoCar(int k) {
        return k < 0 || k >= train.cars;
    }

    private boolean isNoSleeper(int s) {
        return s < 0 || s >= train.sleepers;
    }

    private boolean isNoSet(int set) {
        return (set & ~allSleepers()) != 0;
    }

    private int allSleepers() {
        return (1 << train.sleepers) - 1;
    }

    private int snorersNow(int k) {
        return ear.snorers(at(night.crews, k), night.awake, night.hour);
    }

    private int noiseNow(int s) {
        int k = carOf(night.crews, s);
        if (k == NONE || (night.awake >> s & 1) == 1) {
            return 0;
        }
        return ear.noise(s, snorersNow(k));
    }

    private void passAnHour() {
        night.awake = ear.afterHour(night.crews, night.awake, night.hour);
        night.hour++;
    }

    /** Keeps what is so for undo(); the oldest is lost when the shelf is full. */
    private void remember() {
        undone.store((oldestUndone + manyUndone) % MOST_UNDONE, night);
        if (manyUndone < MOST_UNDONE) {
            manyUndone++;
        } else {
            oldestUndone = (oldestUndone + 1) % MOST_UNDONE;
        }
    }

    /** The least pitch that tells the least of a set of pitches from the greatest. */
    private int testPitch(int set) {
        int least = leastOf(set);
        int greatest = NONE;
        for (int p = 0; p < PITCHES; p++) {
            if ((set >> p & 1) == 1) {
                greatest = p;
            }
        }
        if (least == greatest) {
            return NONE;
        }
        for (int t = 0; t < PITCHES; t++) {
            int withLeast = train.law >> apart(t, least) & 1;
            int withGreatest = train.law >> apart(t, greatest) & 1;
            if (withLeast != withGreatest) {
                return t;
            }
        }
        return NONE;
    }

    private boolean isAlikeBy(int first, int second, int d) {
        for (int p = 0; p < PITCHES; p++) {
            if (manyAt(second, p) != manyAt(first, (p + d) % PITCHES)) {
                return false;
            }
        }
        return true;
    }

    /** How many of a crew have just this pitch. */
    private int manyAt(int crew, int pitch) {
        int many = 0;
        for (int s = 0; s < train.sleepers; s++) {
            if ((crew >> s & 1) == 1 && at(train.pitch, s) == pitch) {
                many++;
            }
        }
        return many;
    }

    private int loudOf(int snorers) {
        int all = 0;
        for (int s = 0; s < train.sleepers; s++) {
            if ((snorers >> s & 1) == 1) {
                all += at(train.loud, s);
            }
        }
        return all;
    }

    private int chordOf(int snorers) {
        int chord = 0;
        for (int s = 0; s < train.sleepers; s++) {
            if ((snorers >> s & 1) == 1) {
                chord |= 1 << at(train.pitch, s);
            }
        }
        return chord;
    }

    private static int leastOf(int pitchSet) {
        for (int p = 0; p < PITCHES; p++) {
            if ((pitchSet >> p & 1) == 1) {
                return p;
            }
        }
        return NONE;
    }

    /** The interval of two pitches. */
    private static int apart(int p, int q) {
        int d = Math.abs(p - q);
        return Math.min(d, PITCHES - d);
    }

    private static int carOf(int[] crews, int s) {
        for (int k = 0; k < crews.length; k++) {
            if ((crews[k] >> s & 1) == 1) {
                return k;
            }
        }
        return NONE;
    }

    private static boolean isFull(Train train, int[] crews, int k) {
        return Integer.bitCount(at(crews, k)) >= at(train.berths, k);
    }

    /** The number at a place of a row; 0 where the row has no such place. */
    private static int at(int[] row, int i) {
        return i >= 0 && i < row.length ? row[i] : 0;
    }

    /** Lays a number at a place of a row; nothing where the row has no such place. */
    private static void lay(int[] row, int i, int number) {
        if (i >= 0 && i < row.length) {
            row[i] = number;
        }
    }

    /** What the text tells of cars, sleepers, couples and the law. */
    private static final class Train {
        int cars;
        int sleepers;
        int couples;
        int law;
        final int[] berths = new int[MOST_CARS];
        final int[] pitch = new int[MOST_SLEEPERS];
        final int[] loud = new int[MOST_SLEEPERS];
        final int[] depth = new int[MOST_SLEEPERS];
        final int[] from = new int[MOST_SLEEPERS];
        final int[] to = new int[MOST_SLEEPERS];
        final int[] mate = new int[MOST_SLEEPERS];

        Train() {
            clear();
        }

        void clear() {
            cars = 0;
            sleepers = 0;
            couples = 0;
            law = UNTOLD_LAW;
            Arrays.fill(mate, NONE);
        }
    }

    /** The text, and how it is read: the first fault ends the reading. */
    private static final class Text {
        private static final int NO_PLACE = 1, OUT_OF_BOUNDS = 2, ONCE_MORE = 3, OUT_OF_ORDER = 4;
        private static final int MOST_FIGURES = 3;

        private final int[] letters = new int[MOST_LETTERS];
        int length;
        int faultPlace;
        private int fault;
        private int place;
        private int numberPlace;
        private boolean isLawTold;

        boolean add(int letter) {
            if (length >= MOST_LETTERS) {
                return false;
            }
            lay(letters, length, letter);
            length++;
            return true;
        }

        /** Reads all of the text into a train: the number of its fault, 0 without one. */
        int read(Train into) {
            into.clear();
            fault = 0;
            place = 0;
            isLawTold = false;
            skipBlanks();
            for (int n = 0; n < MOST_LETTERS && place < length && fault == 0; n++) {
                readClause(into);
                skipBlanks();
            }
            return fault;
        }

        private void readClause(Train into) {
            int word = letterHere();
            int wrong = faultOfWord(into, word);
            if (wrong != 0) {
                fail(wrong, place);
                return;
            }
            place++;
            switch (word) {
                case 'k':
                    readCars(into);
                    break;
                case 's':
                    readSleeper(into);
                    break;
                case 'i':
                    readLaw(into);
                    break;
                default:
                    readCouple(into);
                    break;
            }
        }

        private int faultOfWord(Train into, int word) {
            boolean isFirst = into.cars == 0;
            switch (word) {
                case 'k':
                    return isFirst ? 0 : ONCE_MORE;
                case 's':
                    return isFirst ? NO_PLACE : into.sleepers >= MOST_SLEEPERS ? ONCE_MORE : 0;
                case 'i':
                    return isFirst ? NO_PLACE : isLawTold ? ONCE_MORE : 0;
                case 'c':
                    return isFirst ? NO_PLACE : into.couples >= MOST_COUPLES ? ONCE_MORE : 0;
                default:
                    return NO_PLACE;
            }
        }

        private void readCars(Train into) {
            boolean goesOn = true;
            for (int k = 0; k < MOST_CARS && goesOn; k++) {
                lay(into.berths, k, readNumber(1, MOST_BERTHS));
                into.cars = k + 1;
                goesOn = readComma(into.cars < MOST_CARS);
            }
        }

        private void readLaw(Train into) {
            isLawTold = true;
            into.law = 0;
            int last = NONE;
            boolean goesOn = true;
            for (int n = 0; n < MOST_LETTERS && goesOn; n++) {
                int interval = readNumber(0, LAST_INTERVAL);
                if (interval <= last) {
                    fail(OUT_OF_ORDER, numberPlace);
                }
                into.law |= 1 << interval;
                last = interval;
                goesOn = readComma(true);
            }
        }

        private void readSleeper(Train into) {
            int s = into.sleepers;
            lay(into.pitch, s, readNumber(0, PITCHES - 1));
            lay(into.loud, s, readNumber(0, MOST_LOUD));
            lay(into.depth, s, readNumber(0, MOST_DEPTH));
            int from = readNumber(0, HOURS);
            int to = readNumber(0, HOURS);
            if (to < from) {
                fail(OUT_OF_ORDER, numberPlace);
            }
            lay(into.from, s, from);
            lay(into.to, s, to);
            into.sleepers++;
            readComma(false);
        }

        private void readCouple(Train into) {
            int a = readNumber(0, into.sleepers - 1);
            if (at(into.mate, a) != NONE) {
                fail(OUT_OF_ORDER, numberPlace);
            }
            int b = readNumber(0, into.sleepers - 1);
            if (b == a || at(into.mate, b) != NONE) {
                fail(OUT_OF_ORDER, numberPlace);
            }
            lay(into.mate, a, b);
            lay(into.mate, b, a);
            into.couples++;
            readComma(false);
        }

        /** The number that stands next; behind a fault nothing is read. */
        private int readNumber(int least, int most) {
            skipBlanks();
            if (fault != 0) {
                return least;
            }
            numberPlace = place;
            int figures = 0;
            int value = 0;
            for (; place < length && isFigure(at(letters, place)); place++) {
                figures++;
                if (figures <= MOST_FIGURES) {
                    value = 10 * value + at(letters, place) - '0';
                }
            }
            if (figures == 0) {
                fail(NO_PLACE, place);
            } else if (figures > MOST_FIGURES || value < least || value > most) {
                fail(OUT_OF_BOUNDS, numberPlace);
            }
            return value;
        }

        /** Whether a ',' leads on to one more number; a ';' ends the clause. */
        private boolean readComma(boolean mayGoOn) {
            skipBlanks();
            int letter = letterHere();
            if (fault == 0 && letter != ';' && !(mayGoOn && letter == ',')) {
                fail(NO_PLACE, place);
            }
            if (fault != 0) {
                return false;
            }
            place++;
            return letter == ',';
        }

        private void skipBlanks() {
            for (; place < length && at(letters, place) == ' '; place++) {
            }
        }

        private int letterHere() {
            return place < length ? at(letters, place) : NONE;
        }

        private static boolean isFigure(int letter) {
            return letter >= '0' && letter <= '9';
        }

        /** Only the first fault is told. */
        private void fail(int number, int where) {
            if (fault == 0) {
                fault = number;
                faultPlace = where;
            }
        }
    }

    /** Who lies where, who is awake, the hour and the seed. */
    private static final class Night {
        final int[] crews = new int[MOST_CARS];
        int awake;
        int hour;
        int seed;

        /** All on the platform and asleep; the seed stays. */
        void begin() {
            Arrays.fill(crews, 0);
            awake = 0;
            hour = 0;
        }

        void lieAs(Night other) {
            for (int k = 0; k < crews.length; k++) {
                crews[k] = at(other.crews, k);
            }
        }

        int inCars() {
            int all = 0;
            for (int k = 0; k < crews.length; k++) {
                all |= crews[k];
            }
            return all;
        }

        /** Leads a sleeper into a car, or to the platform (NONE). */
        void lead(int s, int to) {
            for (int k = 0; k < crews.length; k++) {
                int others = crews[k] & ~(1 << s);
                crews[k] = k == to ? others | 1 << s : others;
            }
        }

        int draw(int n) {
            seed = (int) ((seed * SEED_TIMES + SEED_AND) & LAST_SEED);
            return n > 0 ? seed / SEED_PARTS % n : 0;
        }
    }

    /** Places in which nights are kept. */
    private static final class Shelf {
        private static final int WIDTH = MOST_CARS + 3;

        private final int[] cells;

        Shelf(int places) {
            cells = new int[WIDTH * Math.max(places, 0)];
        }

        void store(int place, Night night) {
            int start = WIDTH * place;
            for (int k = 0; k < MOST_CARS; k++) {
                lay(cells, start + k, at(night.crews, k));
            }
            lay(cells, start + MOST_CARS, night.awake);
            lay(cells, start + MOST_CARS + 1, night.hour);
            lay(cells, start + MOST_CARS + 2, night.seed);
        }

        void take(int place, Night night) {
            int start = WIDTH * place;
            for (int k = 0; k < MOST_CARS; k++) {
                lay(night.crews, k, at(cells, start + k));
            }
            night.awake = at(cells, start + MOST_CARS);
            night.hour = at(cells, start + MOST_CARS + 1);
            night.seed = at(cells, start + MOST_CARS + 2);
        }
    }

    /** Who snores when, whom that jars, and who wakes of it. */
    private static final class Ear {
        private int sleepers;
        final int[] pitch = new int[MOST_SLEEPERS];
        private final int[] loud = new int[MOST_SLEEPERS];
        private final int[] depth = new int[MOST_SLEEPERS];
        private final int[] jarring = new int[MOST_SLEEPERS];
        private final int[] snoringAt = new int[HOURS];

        /** Takes over the sleepers of a train; tune() is due behind it. */
        void listen(Train train) {
            sleepers = train.sleepers;
            Arrays.fill(snoringAt, 0);
            for (int s = 0; s < sleepers; s++) {
                lay(pitch, s, at(train.pitch, s));
                lay(loud, s, at(train.loud, s));
                lay(depth, s, at(train.depth, s));
                int end = Math.min(at(train.to, s), HOURS);
                for (int h = at(train.from, s); h < end; h++) {
                    lay(snoringAt, h, at(snoringAt, h) | 1 << s);
                }
            }
        }

        /** Finds by a law the set of those that are out of tune with each sleeper. */
        void tune(int law) {
            for (int s = 0; s < sleepers; s++) {
                int set = 0;
                for (int t = 0; t < sleepers; t++) {
                    boolean isInTune = (law >> apart(at(pitch, s), at(pitch, t)) & 1) == 1;
                    if (t != s && !isInTune) {
                        set |= 1 << t;
                    }
                }
                lay(jarring, s, set);
            }
        }

        int snorers(int crew, int awake, int hour) {
            return crew & ~awake & at(snoringAt, hour);
        }

        int noise(int s, int snorers) {
            int heard = snorers & at(jarring, s);
            int all = 0;
            for (int t = 0; t < loud.length; t++) {
                if ((heard >> t & 1) == 1) {
                    all += loud[t];
                }
            }
            return all;
        }

        boolean isOutOfTune(int snorers) {
            for (int s = 0; s < sleepers; s++) {
                if ((snorers >> s & 1) == 1 && (snorers & at(jarring, s)) != 0) {
                    return true;
                }
            }
            return false;
        }

        /** Who is awake behind an hour, in all cars. */
        int afterHour(int[] crews, int awake, int hour) {
            int after = awake;
            for (int k = 0; k < crews.length; k++) {
                after |= woken(crews[k] & ~awake, snorers(crews[k], awake, hour));
            }
            return after;
        }

        /** Who is awake in the morning, in all cars. */
        int morning(int[] crews, int awake, int hour) {
            int after = awake;
            for (int k = 0; k < crews.length; k++) {
                after |= morningOfOne(crews[k], awake, hour);
            }
            return after;
        }

        /** Who is awake in the morning, as far as one car's crew can change it. */
        int morningOfOne(int crew, int awake, int hour) {
            int after = awake;
            int heard = 0;
            for (int h = hour; h < HOURS; h++) {
                int snorers = snorers(crew, after, h);
                // The same snorers as an hour ago wake nobody more: whom they wake is awake.
                if (snorers != heard) {
                    after |= woken(crew & ~after, snorers);
                    heard = snorers;
                }
            }
            return after;
        }

        private int woken(int asleep, int snorers) {
            int set = 0;
            for (int s = 0; s < depth.length; s++) {
                if ((asleep >> s & 1) == 1 && noise(s, snorers) > depth[s]) {
                    set |= 1 << s;
                }
            }
            return set;
        }
    }

    /** The making-up by which fewest wake; it hangs on the train alone, so one search serves until the next. */
    private static final class MakingUp {
        boolean known;
        int fewest;
        final int[] best = new int[MOST_CARS];
        private final int[] crews = new int[MOST_CARS];
        private final int[] units = new int[MOST_SLEEPERS];
        private final int[] unitCars = new int[MOST_SLEEPERS];
        private final int[] wakers = new int[CREWS];
        private int manyUnits;

        void search(Train train, Ear ear) {
            known = true;
            fewest = NONE;
            Arrays.fill(wakers, NONE);
            Arrays.fill(crews, 0);
            lay(crews, 0, gatherUnits(train));
            for (int n = 0; n < MOST_MAKINGS_UP; n++) {
                weigh(train, ear);
                if (fewest == 0 || !stepOn(train.cars)) {
                    return;
                }
            }
        }

        /** A unit is one sleeper or a couple, in the order of their first ones: the set of all. */
        private int gatherUnits(Train train) {
            manyUnits = 0;
            int all = 0;
            for (int s = 0; s < train.sleepers; s++) {
                int mate = at(train.mate, s);
                if (mate == NONE || mate > s) {
                    int unit = mate == NONE ? 1 << s : 1 << s | 1 << mate;
                    lay(units, manyUnits, unit);
                    lay(unitCars, manyUnits, 0);
                    manyUnits++;
                    all |= unit;
                }
            }
            return all;
        }

        /** The next making-up: the last unit that can goes one car on, those behind it start again. */
        private boolean stepOn(int cars) {
            for (int u = manyUnits - 1; u >= 0; u--) {
                int unit = at(units, u);
                int k = at(unitCars, u);
                int next = k + 1 < cars ? k + 1 : 0;
                lay(crews, k, at(crews, k) & ~unit);
                lay(crews, next, at(crews, next) | unit);
                lay(unitCars, u, next);
                if (next > 0) {
                    return true;
                }
            }
            return false;
        }

        private void weigh(Train train, Ear ear) {
            int count = 0;
            for (int k = 0; k < train.cars; k++) {
                int crew = at(crews, k);
                if (Integer.bitCount(crew) > at(train.berths, k)) {
                    return;
                }
                count += wakersOf(ear, crew);
            }
            if (fewest == NONE || count < fewest) {
                fewest = count;
                for (int k = 0; k < best.length; k++) {
                    best[k] = at(crews, k);
                }
            }
        }

        private int wakersOf(Ear ear, int crew) {
            if (at(wakers, crew) == NONE) {
                lay(wakers, crew, Integer.bitCount(ear.morningOfOne(crew, 0, 0)));
            }
            return at(wakers, crew);
        }
    }

    /** The fewest moves by which nobody more wakes. */
    private static final class Shunting {
        private static final int UNTRIED = 0, QUIET = 1, LOUD = 2;
        private static final int EXCHANGE = 100, TENS = 10;

        final int[] codes = new int[2];
        private final int[] crews = new int[MOST_CARS];
        private final int[] quiet = new int[CREWS];
        private final Steps first = new Steps();
        private final Steps second = new Steps();

        int fewest(Train train, Ear ear, Night night) {
            Arrays.fill(quiet, UNTRIED);
            for (int k = 0; k < crews.length; k++) {
                crews[k] = at(night.crews, k);
            }
            if (isQuiet(ear, night)) {
                return 0;
            }
            first.list(train, crews);
            int one = firstQuiet(first, ear, night);
            if (one != NONE) {
                lay(codes, 0, at(first.codes, one));
                return 1;
            }
            for (int i = 0; i < first.many; i++) {
                first.go(i, crews);
                second.list(train, crews);
                int two = firstQuiet(second, ear, night);
                first.go(i, crews);
                if (two != NONE) {
                    lay(codes, 0, at(first.codes, i));
                    lay(codes, 1, at(second.codes, two));
                    return 2;
                }
            }
            return NONE;
        }

        private int firstQuiet(Steps steps, Ear ear, Night night) {
            for (int i = 0; i < steps.many; i++) {
                steps.go(i, crews);
                boolean found = isQuiet(ear, night);
                steps.go(i, crews);
                if (found) {
                    return i;
                }
            }
            return NONE;
        }

        private boolean isQuiet(Ear ear, Night night) {
            for (int k = 0; k < crews.length; k++) {
                int crew = crews[k];
                if (at(quiet, crew) == UNTRIED) {
                    boolean nobodyMore = ear.morningOfOne(crew, night.awake, night.hour) == night.awake;
                    lay(quiet, crew, nobodyMore ? QUIET : LOUD);
                }
                if (at(quiet, crew) == LOUD) {
                    return false;
                }
            }
            return true;
        }
    }

    /** The moves that can be made, by their numbers; to go one again is to go it back. */
    private static final class Steps {
        int many;
        final int[] codes = new int[MOST_STEPS];
        private final int[] left = new int[MOST_STEPS];
        private final int[] right = new int[MOST_STEPS];
        private final int[] sets = new int[MOST_STEPS];

        void list(Train train, int[] crews) {
            many = 0;
            for (int s = 0; s < train.sleepers; s++) {
                int from = carOf(crews, s);
                for (int k = 0; k < train.cars; k++) {
                    if (from != NONE && from != k && !isFull(train, crews, k)) {
                        append(Shunting.TENS * s + k, from, k, 1 << s);
                    }
                }
            }
            for (int a = 0; a < train.sleepers; a++) {
                for (int b = a + 1; b < train.sleepers; b++) {
                    int k = carOf(crews, a);
                    int l = carOf(crews, b);
                    if (k != NONE && l != NONE && k != l) {
                        append(Shunting.EXCHANGE + Shunting.TENS * a + b, k, l, 1 << a | 1 << b);
                    }
                }
            }
        }

        private void append(int code, int from, int to, int set) {
            lay(codes, many, code);
            lay(left, many, from);
            lay(right, many, to);
            lay(sets, many, set);
            many++;
        }

        void go(int i, int[] crews) {
            int from = at(left, i);
            int to = at(right, i);
            lay(crews, from, at(crews, from) ^ at(sets, i));
            lay(crews, to, at(crews, to) ^ at(sets, i));
        }
    }
}
