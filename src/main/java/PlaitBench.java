import java.util.NoSuchElementException;

/** A bench for straw plait. The document's numbered promises say what each call answers. */
public final class PlaitBench {
    public static final int NONE = -1;

    private static final int MOST_BYTES = 800;
    private static final int FED_BYTES = 20;
    private static final int MOST_PATTERNS = 8;
    private static final int LEAST_STRAWS = 2;
    private static final int MOST_STRAWS = 7;
    private static final int MOST_CROSSINGS = 300;
    private static final int MOST_UNTWINING = 12;
    private static final int MOST_CROSSINGS_UNTWINING = 600;

    private static final int MOST_BUNDLES = 40;
    private static final int MOST_SCORES = 60;
    private static final int MOST_HATS = 60;
    private static final int MOST_FIELD = 31;
    private static final int MOST_WIDTH = 9;
    private static final int MOST_STRAWS_OF_BUNDLE = 5000;
    private static final int STRAW_LENGTH = 100;
    private static final int MOST_TIMES_OF_SCORE = 200;
    private static final int LENGTH_OF_LEVEL = 2;
    private static final int MOST_RADIUS = 400;
    private static final int SCORES_TOLD_AS_BITS = 31;

    private final byte[] tape = new byte[MOST_BYTES];
    private int taped = 0;
    private final Pattern[] patterns = new Pattern[MOST_PATTERNS];
    private final Reader reader = new Reader(tape, patterns);
    private final Form repeated = new Form(MOST_CROSSINGS_UNTWINING);

    private final Bundle[] bundles = new Bundle[MOST_BUNDLES];
    private int bundleCount = 0;
    private final Score[] scores = new Score[MOST_SCORES];
    private int scoreCount = 0;
    private final Hat[] hats = new Hat[MOST_HATS];
    private int hatCount = 0;

    public PlaitBench() {
    }

    public int feed(int a, int b, int c, int d, int e) {
        if (taped > MOST_BYTES - FED_BYTES) {
            return NONE;
        }
        tapeBytes(a);
        tapeBytes(b);
        tapeBytes(c);
        tapeBytes(d);
        tapeBytes(e);
        return taped;
    }

    public int pattern(int k, int straws, int n) throws IllegalArgumentException {
        if (k < 0 || k >= MOST_PATTERNS || straws < LEAST_STRAWS || straws > MOST_STRAWS) {
            throw new IllegalArgumentException("no such pattern or straws");
        }
        if (n < 0 || n > taped) {
            throw new IllegalArgumentException("the tape has not so many bytes");
        }
        reader.read(n, straws);
        taped = 0;
        if (reader.faultKind == Reader.NO_FAULT) {
            if (patterns[k] == null) {
                patterns[k] = new Pattern();
            }
            patterns[k].become(straws, reader.row, reader.length);
        }
        return reader.faultKind;
    }

    public int fault(int what) throws NoSuchElementException {
        switch (what) {
            case 0:
                return reader.faultKind;
            case 1:
                return reader.faultPlace;
            default:
                throw new NoSuchElementException("no such question");
        }
    }

    public int size(int k) {
        Pattern found = patternOrNull(k);
        return found == null ? NONE : found.length;
    }

    public int crossing(int k, int j) throws NoSuchElementException {
        Pattern found = knownPattern(k);
        if (j < 0 || j >= found.length) {
            throw new NoSuchElementException("no such crossing");
        }
        return found.row[j];
    }

    public int about(int k, int what) throws NoSuchElementException {
        Pattern found = knownPattern(k);
        switch (what) {
            case 0:
                return found.straws;
            case 1:
                return found.home;
            case 2:
                return found.rings;
            case 3:
                return found.holds ? 1 : 0;
            case 4:
                return found.levels;
            case 5:
                return found.form().power;
            case 6:
                return found.form().factorCount();
            default:
                throw new NoSuchElementException("no such question");
        }
    }

    public int factor(int k, int j) throws NoSuchElementException {
        Form form = knownPattern(k).form();
        if (j < 0 || j >= form.factorCount()) {
            throw new NoSuchElementException("no such factor");
        }
        return form.factorAt(j);
    }

    public boolean alike(int k, int l) throws NoSuchElementException {
        Pattern one = knownPattern(k);
        Pattern other = knownPattern(l);
        return one.straws == other.straws && one.form().isSameAs(other.form());
    }

    public int untwined(int k) throws NoSuchElementException {
        return knownPattern(k).timesToUntwine(repeated);
    }

    public int goes(int k, int place) throws NoSuchElementException {
        Pattern found = knownPattern(k);
        if (!found.hasPlace(place)) {
            throw new NoSuchElementException("no such place");
        }
        return found.ends[place];
    }

    public int twine(int k, int a, int b) throws NoSuchElementException {
        Pattern found = knownPattern(k);
        if (!found.hasPlace(a) || !found.hasPlace(b) || a == b) {
            throw new NoSuchElementException("no such two places");
        }
        return found.twineOf(a, b);
    }

    public int use(int k, int place) throws NoSuchElementException {
        Pattern found = knownPattern(k);
        if (!found.hasPlace(place)) {
            throw new NoSuchElementException("no such place");
        }
        return found.useFrom(place);
    }

    public int bundle(int field, int width, int straws) {
        if (bundleCount >= MOST_BUNDLES || field < 0 || field > MOST_FIELD || !isWidth(width)
                || straws < 1 || straws > MOST_STRAWS_OF_BUNDLE) {
            return NONE;
        }
        bundles[bundleCount] = new Bundle(field, width, straws);
        bundleCount++;
        return bundleCount - 1;
    }

    public int left(int bundle) throws NoSuchElementException {
        if (bundle < 0 || bundle >= bundleCount) {
            throw new NoSuchElementException("no such bundle");
        }
        return bundles[bundle].strawsLeft;
    }

    public int score(int k, int times, int width) {
        Pattern found = patternOrNull(k);
        if (scoreCount >= MOST_SCORES || found == null || !found.holds
                || times < 1 || times > MOST_TIMES_OF_SCORE || !isWidth(width)) {
            return NONE;
        }
        int need = found.strawsNeeded(times);
        if (need > strawsLeftOf(width)) {
            return NONE;
        }
        int fields = takeStraws(width, need);
        scores[scoreCount] = new Score(width, LENGTH_OF_LEVEL * found.levels * times, fields, need);
        scoreCount++;
        return scoreCount - 1;
    }

    public int scored(int score, int what) throws NoSuchElementException {
        if (score < 0 || score >= scoreCount) {
            throw new NoSuchElementException("no such score");
        }
        Score found = scores[score];
        switch (what) {
            case 0:
                return found.length;
            case 1:
                return found.lengthLeft;
            case 2:
                return found.width;
            case 3:
                return found.fields;
            case 4:
                return found.strawsTaken;
            default:
                throw new NoSuchElementException("no such question");
        }
    }

    public int hat(int width, int r) {
        if (hatCount >= MOST_HATS || !isWidth(width) || r < 1 || r > MOST_RADIUS || r % width != 0) {
            return NONE;
        }
        int turns = r / width;
        int need = lengthOfTurns(width, turns);
        if (need > lengthLeftOf(width)) {
            return NONE;
        }
        Hat sewing = new Hat(need, turns);
        sewFromScores(sewing, width);
        hats[hatCount] = sewing;
        hatCount++;
        return hatCount - 1;
    }

    public int sewn(int hat, int what) throws NoSuchElementException {
        if (hat < 0 || hat >= hatCount) {
            throw new NoSuchElementException("no such hat");
        }
        Hat found = hats[hat];
        switch (what) {
            case 0:
                return found.length;
            case 1:
                return found.turns;
            case 2:
                return found.fields;
            case 3:
                return found.scoreBits;
            default:
                throw new NoSuchElementException("no such question");
        }
    }

    public int count(int what) throws NoSuchElementException {
        switch (what) {
            case 0:
                return bundleCount;
            case 1:
                return scoreCount;
            case 2:
                return hatCount;
            case 3:
                return taped;
            case 4:
                return strawsLeftOfAll();
            default:
                throw new NoSuchElementException("no such question");
        }
    }

    private void tapeBytes(int number) {
        for (int shift = 24; shift >= 0 && taped < MOST_BYTES; shift -= 8) {
            tape[taped] = (byte) (number >> shift);
            taped++;
        }
    }

    private Pattern patternOrNull(int k) {
        return k < 0 || k >= MOST_PATTERNS ? null : patterns[k];
    }

    private Pattern knownPattern(int k) {
        Pattern found = patternOrNull(k);
        if (found == null) {
            throw new NoSuchElementException("no such pattern");
        }
        return found;
    }

    private static boolean isWidth(int width) {
        return width >= 1 && width <= MOST_WIDTH;
    }

    private int strawsLeftOfAll() {
        int sum = 0;
        for (int i = 0; i < bundleCount; i++) {
            sum += bundles[i].strawsLeft;
        }
        return sum;
    }

    private int strawsLeftOf(int width) {
        int sum = 0;
        for (int i = 0; i < bundleCount; i++) {
            if (bundles[i].width == width) {
                sum += bundles[i].strawsLeft;
            }
        }
        return sum;
    }

    /** Answers the fields of the bundles that gave straws, as bits. */
    private int takeStraws(int width, int need) {
        int fields = 0;
        int missing = need;
        for (int i = 0; i < bundleCount && missing > 0; i++) {
            Bundle from = bundles[i];
            if (from.width == width && from.strawsLeft > 0) {
                int taken = Math.min(missing, from.strawsLeft);
                from.strawsLeft -= taken;
                missing -= taken;
                fields |= 1 << from.field;
            }
        }
        return fields;
    }

    private int lengthLeftOf(int width) {
        int sum = 0;
        for (int i = 0; i < scoreCount; i++) {
            if (scores[i].width == width) {
                sum += scores[i].lengthLeft;
            }
        }
        return sum;
    }

    private static int lengthOfTurns(int width, int turns) {
        int sum = 0;
        for (int turn = 1; turn <= turns; turn++) {
            sum += 710 * (2 * turn - 1) * width / 226 + 1;
        }
        return sum;
    }

    private void sewFromScores(Hat sewing, int width) {
        int missing = sewing.length;
        for (int i = 0; i < scoreCount && missing > 0; i++) {
            Score from = scores[i];
            if (from.width == width && from.lengthLeft > 0) {
                int taken = Math.min(missing, from.lengthLeft);
                from.lengthLeft -= taken;
                missing -= taken;
                sewing.fields |= from.fields;
                if (i < SCORES_TOLD_AS_BITS) {
                    sewing.scoreBits |= 1 << i;
                }
            }
        }
    }

    /** Straws of one field and width. */
    private static final class Bundle {
        final int field;
        final int width;
        int strawsLeft;

        Bundle(int field, int width, int straws) {
            this.field = field;
            this.width = width;
            this.strawsLeft = straws;
        }
    }

    /** Plait of one width, made of the straws of some fields. */
    private static final class Score {
        final int width;
        final int length;
        final int fields;
        final int strawsTaken;
        int lengthLeft;

        Score(int width, int length, int fields, int strawsTaken) {
            this.width = width;
            this.length = length;
            this.fields = fields;
            this.strawsTaken = strawsTaken;
            this.lengthLeft = length;
        }
    }

    /** A spiral of plait. */
    private static final class Hat {
        final int length;
        final int turns;
        int fields = 0;
        int scoreBits = 0;

        Hat(int length, int turns) {
            this.length = length;
            this.turns = turns;
        }
    }

    /** Reads a text of the language of crossings into a row, up to its first fault. */
    private static final class Reader {
        static final int NO_FAULT = 0;

        private static final int CANNOT_STAND = 1;
        private static final int OUT_OF_RANGE = 2;
        private static final int NO_SUCH_PATTERN = 3;

        private static final int MOST_DEPTH = 8;
        private static final int MOST_TIMES = 50;
        private static final int MOST_DIGITS_OF_COPY = 2;
        private static final int VALUE_CAP = 1000;
        private static final int TEXT_END = -1;

        /* What an open bracket does with what is in it; a number above 0 is how many times. */
        private static final int UNDO = 0;
        private static final int MIRROR = -1;
        private static final int TURN = -2;

        final int[] row = new int[MOST_CROSSINGS];
        int length = 0;
        int faultKind = NO_FAULT;
        int faultPlace = NONE;

        private final int[] openedWith = new int[MOST_DEPTH];
        private final int[] openedAt = new int[MOST_DEPTH];
        private int depth = 0;
        private final byte[] text;
        private final Pattern[] known;
        private int end = 0;
        private int at = 0;
        private int straws = LEAST_STRAWS;

        Reader(byte[] text, Pattern[] known) {
            this.text = text;
            this.known = known;
        }

        void read(int newEnd, int newStraws) {
            end = Math.min(newEnd, text.length);
            straws = newStraws;
            at = 0;
            depth = 0;
            length = 0;
            faultKind = NO_FAULT;
            faultPlace = NONE;
            readItems();
        }

        private void readItems() {
            // Each item takes a byte or more, so there are no more of them than bytes.
            for (int item = 0; item <= end && faultKind == NO_FAULT; item++) {
                int sign = nextSign();
                if (sign == TEXT_END) {
                    if (depth > 0) {
                        refuse(CANNOT_STAND, at);
                    }
                    return;
                }
                readItem(sign);
            }
        }

        private void readItem(int sign) {
            if (isDigit(sign)) {
                readNumbered();
            } else if (sign == 'p') {
                readCopy();
            } else if (sign == 'u') {
                readLettered(UNDO);
            } else if (sign == 'm') {
                readLettered(MIRROR);
            } else if (sign == 't') {
                readLettered(TURN);
            } else if (sign == ')' && depth > 0) {
                closeBracket();
            } else {
                refuse(CANNOT_STAND, at);
            }
        }

        private void readNumbered() {
            int numberAt = at;
            int value = readNumber();
            int sign = nextSign();
            if (sign == '+' || sign == '-') {
                addCrossing(sign == '+' ? 1 : -1, value, numberAt);
            } else if (sign != '(') {
                refuse(CANNOT_STAND, at);
            } else if (value < 1 || value > MOST_TIMES) {
                refuse(OUT_OF_RANGE, numberAt);
            } else {
                openBracket(value);
            }
        }

        private void addCrossing(int side, int value, int numberAt) {
            if (value < 1 || value >= straws) {
                refuse(OUT_OF_RANGE, numberAt);
            } else if (length >= MOST_CROSSINGS) {
                refuse(OUT_OF_RANGE, at);
            } else {
                row[length] = side * value;
                length++;
                at++;
            }
        }

        private void readCopy() {
            at++;
            if (!isDigit(nextSign())) {
                refuse(CANNOT_STAND, at);
                return;
            }
            int numberAt = at;
            int value = readNumber();
            if (at - numberAt > MOST_DIGITS_OF_COPY || value >= known.length) {
                refuse(OUT_OF_RANGE, numberAt);
            } else if (known[value] == null) {
                refuse(NO_SUCH_PATTERN, numberAt);
            } else {
                addCopy(known[value], numberAt);
            }
        }

        private void addCopy(Pattern copied, int numberAt) {
            // A row too long is asked about first: of two faults at one place the least counts.
            if (copied.length > MOST_CROSSINGS - length) {
                refuse(OUT_OF_RANGE, numberAt);
            } else if (copied.straws != straws) {
                refuse(NO_SUCH_PATTERN, numberAt);
            } else {
                System.arraycopy(copied.row, 0, row, length, copied.length);
                length += copied.length;
            }
        }

        private void readLettered(int what) {
            at++;
            if (nextSign() == '(') {
                openBracket(what);
            } else {
                refuse(CANNOT_STAND, at);
            }
        }

        private void openBracket(int what) {
            if (depth >= MOST_DEPTH) {
                refuse(OUT_OF_RANGE, at);
                return;
            }
            openedWith[depth] = what;
            openedAt[depth] = length;
            depth++;
            at++;
        }

        private void closeBracket() {
            depth--;
            int what = openedWith[depth];
            int from = openedAt[depth];
            if (what == UNDO) {
                undo(from);
            } else if (what == MIRROR) {
                mirror(from);
            } else if (what == TURN) {
                turn(from);
            } else if (from + (length - from) * what > MOST_CROSSINGS) {
                refuse(OUT_OF_RANGE, at);
            } else {
                repeat(from, what);
            }
            at++;
        }

        private void repeat(int from, int times) {
            int part = length - from;
            for (int made = 1; made < times && length + part <= MOST_CROSSINGS; made++) {
                System.arraycopy(row, from, row, length, part);
                length += part;
            }
        }

        private void undo(int from) {
            int high = length - 1;
            for (int low = from; low <= high; low++) {
                int kept = row[low];
                row[low] = -row[high];
                row[high] = -kept;
                high--;
            }
        }

        private void mirror(int from) {
            for (int j = from; j < length; j++) {
                row[j] = -row[j];
            }
        }

        private void turn(int from) {
            for (int j = from; j < length; j++) {
                row[j] = row[j] > 0 ? straws - row[j] : -straws - row[j];
            }
        }

        /** The value, which stays at the cap when it comes there, so that no long number wraps. */
        private int readNumber() {
            int value = 0;
            while (at < end && isDigit(text[at])) {
                value = Math.min(VALUE_CAP, value * 10 + (text[at] - '0'));
                at++;
            }
            return value;
        }

        private int nextSign() {
            while (at < end && (text[at] == ' ' || text[at] == '\n')) {
                at++;
            }
            return at < end ? text[at] & 255 : TEXT_END;
        }

        private static boolean isDigit(int sign) {
            return sign >= '0' && sign <= '9';
        }

        private void refuse(int kind, int place) {
            faultKind = kind;
            faultPlace = place;
        }
    }

    /** A row of crossings, and what is known of its straws when it is made once. */
    private static final class Pattern {
        private static final int PLACES = MOST_STRAWS + 1;
        private static final int OVER = 1;
        private static final int UNDER = -1;
        private static final int NEITHER = 0;
        private static final int NOT_SOUGHT = 0;

        final int[] row = new int[MOST_CROSSINGS];
        final int[] ends = new int[PLACES];
        int length = 0;
        int straws = LEAST_STRAWS;
        int levels = 0;
        int home = 1;
        int rings = 0;
        boolean holds = false;

        /* All of these but lying and levelAt go by the place at which a straw begins. */
        private final int[] lying = new int[PLACES];
        private final int[] levelAt = new int[PLACES];
        private final int[] overs = new int[PLACES];
        private final int[] firstSide = new int[PLACES];
        private final int[] lastSide = new int[PLACES];
        private final int[][] twines = new int[PLACES][PLACES];
        private boolean inTurn = true;

        private final Form ownForm = new Form(MOST_CROSSINGS);
        private boolean formed = false;
        private int untwining = NOT_SOUGHT;

        void become(int newStraws, int[] newRow, int newLength) {
            straws = newStraws;
            length = Math.min(newLength, Math.min(newRow.length, MOST_CROSSINGS));
            System.arraycopy(newRow, 0, row, 0, length);
            formed = false;
            untwining = NOT_SOUGHT;
            clearTraces();
            for (int j = 0; j < length; j++) {
                cross(row[j]);
            }
            for (int place = 1; place <= straws; place++) {
                ends[lying[place]] = place;
            }
            walkRings();
            holds = inTurn && hasAllNumbers() && goesOnInTurn();
        }

        boolean hasPlace(int place) {
            return place >= 1 && place <= straws;
        }

        int useFrom(int place) {
            return LENGTH_OF_LEVEL * levels + overs[place];
        }

        /** How many straws it takes, made so many times, when a straw begun is not shared. */
        int strawsNeeded(int times) {
            int needed = 0;
            for (int place = 1; place <= straws; place++) {
                int used = 0;
                int through = place;
                for (int made = 0; made < times; made++) {
                    used += useFrom(through);
                    through = ends[through];
                }
                needed += (used + STRAW_LENGTH - 1) / STRAW_LENGTH;
            }
            return needed;
        }

        int twineOf(int a, int b) {
            int sum = 0;
            int one = a;
            int other = b;
            for (int made = 0; made < home; made++) {
                sum += twines[one][other];
                one = ends[one];
                other = ends[other];
            }
            return sum;
        }

        Form form() {
            if (!formed) {
                ownForm.clear(straws);
                ownForm.make(row, length);
                formed = true;
            }
            return ownForm;
        }

        int timesToUntwine(Form workForm) {
            if (untwining != NOT_SOUGHT) {
                return untwining;
            }
            untwining = NONE;
            // D an even number of times brings each straw home, so HOME is the least that can do.
            if (home * length > MOST_CROSSINGS_UNTWINING) {
                return untwining;
            }
            workForm.clear(straws);
            for (int made = 1; made <= MOST_UNTWINING && made * length <= MOST_CROSSINGS_UNTWINING; made++) {
                workForm.make(row, length);
                if (workForm.isEvenPowerAlone()) {
                    untwining = made;
                    break;
                }
            }
            return untwining;
        }

        private void clearTraces() {
            levels = 0;
            inTurn = true;
            for (int place = 0; place < PLACES; place++) {
                lying[place] = place;
                levelAt[place] = 0;
                overs[place] = 0;
                firstSide[place] = NEITHER;
                lastSide[place] = NEITHER;
                for (int other = 0; other < PLACES; other++) {
                    twines[place][other] = 0;
                }
            }
        }

        private void cross(int crossed) {
            int number = Math.abs(crossed);
            if (number < 1 || number >= straws) {
                return;
            }
            int lower = lying[number];
            int upper = lying[number + 1];
            lieAt(lower, crossed > 0 ? OVER : UNDER);
            lieAt(upper, crossed > 0 ? UNDER : OVER);
            int sign = crossed > 0 ? 1 : -1;
            twines[lower][upper] += sign;
            twines[upper][lower] += sign;
            lying[number] = upper;
            lying[number + 1] = lower;
            levelAt[number] = 1 + Math.max(levelAt[number], Math.max(levelAt[number - 1], levelAt[number + 1]));
            levels = Math.max(levels, levelAt[number]);
        }

        private void lieAt(int straw, int side) {
            if (firstSide[straw] == NEITHER) {
                firstSide[straw] = side;
            }
            if (lastSide[straw] == side) {
                inTurn = false;
            }
            lastSide[straw] = side;
            if (side == OVER) {
                overs[straw]++;
            }
        }

        private boolean hasAllNumbers() {
            for (int number = 1; number < straws; number++) {
                if (levelAt[number] == 0) {
                    return false;
                }
            }
            return true;
        }

        /** Whether each straw, made again from the place to which it came, begins with its other side. */
        private boolean goesOnInTurn() {
            for (int place = 1; place <= straws; place++) {
                if (lastSide[place] == firstSide[ends[place]]) {
                    return false;
                }
            }
            return true;
        }

        private void walkRings() {
            rings = 0;
            home = 1;
            int walked = 0;
            for (int place = 1; place <= straws; place++) {
                int steps = 0;
                int through = place;
                while (steps < straws && (walked >> through & 1) == 0) {
                    walked |= 1 << through;
                    through = ends[through];
                    steps++;
                }
                if (steps > 0) {
                    rings++;
                    home = leastCommonMultiple(home, steps);
                }
            }
        }

        private static int leastCommonMultiple(int a, int b) {
            for (int times = 1; times < b; times++) {
                if (a * times % b == 0) {
                    return a * times;
                }
            }
            return a * b;
        }
    }

    /**
     * The form of a row that is made piece by piece: a power of D, then simple rows as their
     * permutations, each of which has of what lies behind it all that it can.
     */
    private static final class Form {
        private static final int BITS = 3;
        private static final int PLACE_MASK = 7;
        /* A slide moves at most 21 crossings, and steps back once for each. */
        private static final int MOST_SLIDE_STEPS = 64;

        int power = 0;

        private final int[] factors;
        private int head = 0;
        private int tail = 0;
        private int straws = LEAST_STRAWS;
        private int whole = 0;
        private int empty = 0;
        private final int[] comesFrom = new int[MOST_STRAWS + 1];
        private final int[] goesTo = new int[MOST_STRAWS + 1];

        Form(int mostCrossings) {
            factors = new int[Math.max(0, mostCrossings)];
        }

        void clear(int newStraws) {
            straws = newStraws;
            power = 0;
            head = 0;
            tail = 0;
            empty = 0;
            whole = 0;
            for (int place = 1; place <= straws; place++) {
                empty |= packed(place, place);
                whole |= packed(place, straws + 1 - place);
            }
        }

        int factorCount() {
            return tail - head;
        }

        int factorAt(int j) {
            return factors[head + j];
        }

        boolean isEvenPowerAlone() {
            return head == tail && (power & 1) == 0;
        }

        boolean isSameAs(Form other) {
            if (power != other.power || factorCount() != other.factorCount()) {
                return false;
            }
            for (int j = 0; j < factorCount(); j++) {
                if (factorAt(j) != other.factorAt(j)) {
                    return false;
                }
            }
            return true;
        }

        /**
         * Puts a row behind. A crossing with - is D undone and then D without that crossing at its
         * end; each D undone goes to the front, and turns all that it passes.
         */
        void make(int[] row, int length) {
            int undone = 0;
            for (int j = 0; j < length; j++) {
                if (row[j] < 0) {
                    undone++;
                }
            }
            power -= undone;
            if ((undone & 1) == 1) {
                turnFactors();
            }
            for (int j = 0; j < length; j++) {
                boolean over = row[j] > 0;
                if (!over) {
                    undone--;
                }
                int number = (undone & 1) == 1 ? straws - Math.abs(row[j]) : Math.abs(row[j]);
                append(over ? withNumbersChanged(empty, number) : withNumbersChanged(whole, number));
            }
        }

        private void append(int factor) {
            if (tail >= factors.length) {
                return;
            }
            factors[tail] = factor;
            tail++;
            boolean moved = true;
            for (int j = tail - 2; j >= head && moved; j--) {
                moved = slideToFront(j);
            }
            while (head < tail && factors[head] == whole) {
                head++;
                power++;
            }
            while (tail > head && factors[tail - 1] == empty) {
                tail--;
            }
        }

        /** Moves what it can of the factor behind j into factor j: whether there was any. */
        private boolean slideToFront(int j) {
            unpackInverse(factors[j]);
            unpack(factors[j + 1]);
            boolean moved = false;
            int number = 1;
            for (int step = 0; step < MOST_SLIDE_STEPS && number < straws; step++) {
                if (comesFrom[number] < comesFrom[number + 1] && goesTo[number] > goesTo[number + 1]) {
                    changeNeighbours(comesFrom, number);
                    changeNeighbours(goesTo, number);
                    moved = true;
                    number = Math.max(1, number - 1);
                } else {
                    number++;
                }
            }
            if (moved) {
                factors[j] = packInverse();
                factors[j + 1] = pack();
            }
            return moved;
        }

        private static void changeNeighbours(int[] places, int number) {
            int kept = places[number];
            places[number] = places[number + 1];
            places[number + 1] = kept;
        }

        private void turnFactors() {
            for (int j = head; j < tail; j++) {
                unpack(factors[j]);
                int turned = 0;
                for (int place = 1; place <= straws; place++) {
                    turned |= packed(straws + 1 - place, straws + 1 - goesTo[place]);
                }
                factors[j] = turned;
            }
        }

        /** The permutation with a crossing of this number behind it. */
        private int withNumbersChanged(int factor, int number) {
            unpackInverse(factor);
            if (number >= 1 && number < straws) {
                changeNeighbours(comesFrom, number);
            }
            return packInverse();
        }

        private static int packed(int from, int to) {
            return to << BITS * (from - 1);
        }

        private void unpack(int factor) {
            for (int place = 1; place <= straws; place++) {
                goesTo[place] = factor >> BITS * (place - 1) & PLACE_MASK;
            }
        }

        private void unpackInverse(int factor) {
            for (int place = 1; place <= straws; place++) {
                comesFrom[factor >> BITS * (place - 1) & PLACE_MASK] = place;
            }
        }

        private int pack() {
            int factor = 0;
            for (int place = 1; place <= straws; place++) {
                factor |= packed(place, goesTo[place]);
            }
            return factor;
        }

        private int packInverse() {
            int factor = 0;
            for (int place = 1; place <= straws; place++) {
                factor |= packed(comesFrom[place], place);
            }
            return factor;
        }
    }
}
