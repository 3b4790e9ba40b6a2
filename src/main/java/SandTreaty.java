/** Treaties that two shores write on sand between one tide and the next. */
public final class SandTreaty {
    public static final int NONE = -1, UNKNOWN = -1000000001, OUTSIDE = -1000000002, NOT = -1000000003, FULL = -1000000004;

    private static final int BILLION = 1000000000;
    private static final int MOST_LETTERS = 240;
    private static final int MOST_FIGURES = 3;
    private static final int MOST_TIDES = 12;
    private static final int MOST_CELLS = 9;
    private static final int MOST_CLAUSES = 6;
    private static final int MOST_HEIGHT = 19;
    private static final int MOST_WIND = 30;
    private static final int MOST_TAKES = 6;
    private static final int MOST_WORTH = 20;
    private static final int LEANS_ON_NONE = 9;
    private static final int WORTH_MORE = 10;
    private static final int PEACE_MORE = 1000000;
    private static final int BARGAIN_MORE = 100;
    private static final int MOST_HOURS_AT_ONCE = 30;
    private static final int LATEST_HOUR = 9000;
    private static final int TRIED_HOURS = 100;
    private static final int PLAN_HOURS = 40;
    private static final int PLAN_CLAUSES = 3;
    private static final int PLAN_MOST_STANDS = 12;
    private static final int MOST_TURNS = 6;
    private static final int MOST_EBB = 30;
    private static final int MOST_SEEN = 8;
    private static final int MOST_SEEN_HOURS = 60;
    private static final int BEGINS = 12;
    private static final int MOST_STORM_HOURS = 60;
    private static final int HUNDRED = 100;
    private static final int BOOK_ENTRIES = 20;
    private static final int MOST_UNDONE = 30;
    private static final int IMAGES = 2;
    private static final int STORM_DRAW = 16;

    private final Strand ground;
    private final Reader reader;
    private final Sand now;
    private final Sand tried;
    private final Past past;
    private final Images images;
    private final Planner planner;
    private final Turns turns;
    private final Sightings sightings;
    private final Book book;
    private final Dice dice;

    public SandTreaty() {
        ground = new Strand();
        reader = new Reader();
        now = new Sand(ground);
        tried = new Sand(ground);
        past = new Past();
        images = new Images();
        planner = new Planner(ground);
        turns = new Turns(ground);
        sightings = new Sightings(ground, tried);
        book = new Book();
        dice = new Dice();
    }

    // ---- the strand

    public int feed(int letter) {
        if (letter < 0 || letter > 255) {
            return OUTSIDE;
        }
        return reader.add(letter) ? reader.length : FULL;
    }

    public int strand() {
        reader.read();
        if (reader.faultKind != 0) {
            return -10 - reader.faultKind;
        }
        ground.become(reader.draft);
        now.restart();
        sightings.forget();
        book.forget();
        images.forget();
        past.forget();
        return ground.clauseCount;
    }

    public int fault() {
        return reader.faultAt;
    }

    public int told(int what) {
        switch (what) {
            case 0: return ground.tideCount;
            case 1: return ground.wind;
            case 2: return ground.cellCount;
            case 3: return ground.clauseCount;
            case 4: return reader.length;
            case 5: return now.hours;
            case 6: return ground.tideAt(now.hours);
            case 7: return ground.wetSet(now.hours);
            case 8: return now.stick;
            case 9: return now.forceSet();
            case 10: return now.peaceOne + PEACE_MORE;
            case 11: return now.peaceOther + PEACE_MORE;
            case 12: return sightings.count;
            case 13: return book.count;
            case 14: return past.count;
            default: return OUTSIDE;
        }
    }

    public int clause(int k, int what) {
        if (!ground.hasClause(k)) {
            return UNKNOWN;
        }
        switch (what) {
            case 0: return ground.takes[k];
            case 1: return ground.leans[k];
            case 2: return ground.worthOne[k] + WORTH_MORE;
            case 3: return ground.worthOther[k] + WORTH_MORE;
            case 4: return now.cellOf[k];
            case 5: return now.written[k];
            case 6: return now.dry[k];
            default: return OUTSIDE;
        }
    }

    public int cell(int c, int what) {
        if (!ground.hasCell(c)) {
            return UNKNOWN;
        }
        switch (what) {
            case 0: return ground.heights[c];
            case 1: return now.clauseIn(c);
            case 2: return ground.isWet(c, now.hours) ? 1 : 0;
            default: return OUTSIDE;
        }
    }

    // ---- deeds

    public int write(int k, int c) {
        if (!ground.hasClause(k) || !ground.hasCell(c)) {
            return UNKNOWN;
        }
        if (!now.mayWrite(k, c)) {
            return NOT;
        }
        past.add(now);
        now.begin(k, c);
        return ground.takes[k];
    }

    public int rub(int k) {
        if (!ground.hasClause(k)) {
            return UNKNOWN;
        }
        if (now.isNowhere(k)) {
            return NOT;
        }
        past.add(now);
        int hoursWritten = now.written[k];
        now.remove(k);
        return hoursWritten;
    }

    public int storm() {
        if (!ground.isTold()) {
            return NOT;
        }
        past.add(now);
        return now.removeAll();
    }

    public int hour(int n) {
        int refusal = refusalOfHours(n);
        if (refusal != 0) {
            return refusal;
        }
        for (int i = 0; i < n; i++) {
            past.add(now);
            now.passHour();
        }
        return now.forceSet();
    }

    public int drift(int n) {
        int refusal = refusalOfHours(n);
        if (refusal != 0) {
            return refusal;
        }
        for (int i = 0; i < n; i++) {
            past.add(now);
            drawDeeds();
            now.passHour();
        }
        return now.forceSet();
    }

    public int undo(int n) {
        if (n < 1 || n > MOST_UNDONE) {
            return OUTSIDE;
        }
        if (n > past.count) {
            return NOT;
        }
        past.restore(now, n);
        return now.hours;
    }

    /** 0: the hours may pass. */
    private int refusalOfHours(int n) {
        if (n < 1 || n > MOST_HOURS_AT_ONCE) {
            return OUTSIDE;
        }
        if (!ground.isTold()) {
            return NOT;
        }
        return now.hours > LATEST_HOUR ? FULL : 0;
    }

    private void drawDeeds() {
        if (ground.clauseCount > 0 && ground.cellCount > 0) {
            int k = dice.next(ground.clauseCount);
            int c = dice.next(ground.cellCount);
            if (now.mayWrite(k, c)) {
                now.begin(k, c);
            }
        }
        if (dice.next(STORM_DRAW) == 0) {
            now.removeAll();
        }
    }

    // ---- tried

    public int lasts(int k, int c) {
        if (!ground.hasClause(k) || !ground.hasCell(c)) {
            return UNKNOWN;
        }
        tried.copy(now);
        tried.freeStick();
        if (!tried.mayWrite(k, c)) {
            return NOT;
        }
        tried.begin(k, c);
        int count = 0;
        for (int i = 0; i < TRIED_HOURS; i++) {
            tried.passHour();
            if (tried.isInForce(k)) {
                count++;
            }
        }
        return count;
    }

    public int washed(int k) {
        if (!ground.hasClause(k)) {
            return UNKNOWN;
        }
        tried.copy(now);
        for (int i = 0; i <= TRIED_HOURS; i++) {
            if (tried.isNowhere(k)) {
                return i;
            }
            tried.passHour();
        }
        return NONE;
    }

    public int plan(int set, int m, int i) {
        if (!ground.hasSet(set)) {
            return UNKNOWN;
        }
        int size = Integer.bitCount(set);
        // The document bounds no place, from neither side: one that the order lacks is NONE, not refused.
        if (size < 1 || size > PLAN_CLAUSES || m < 1 || m > PLAN_MOST_STANDS) {
            return OUTSIDE;
        }
        planner.search(set, m, now.hours);
        return i == NONE ? planner.soonest() : planner.placed(i);
    }

    public int bargain(int set, int n, int m, int what) {
        if (!ground.hasSet(set)) {
            return UNKNOWN;
        }
        if (n < 1 || n > MOST_TURNS || m < 0 || m > MOST_EBB || what < 0 || what > 2) {
            return OUTSIDE;
        }
        int chosen = turns.settle(set, n, m);
        if (what == 2) {
            return chosen;
        }
        return ground.worthOf(chosen, what == 0) + BARGAIN_MORE;
    }

    public int crossing(int k) {
        if (!ground.hasClause(k)) {
            return UNKNOWN;
        }
        tried.copy(now);
        for (int i = 0; i < TRIED_HOURS; i++) {
            if (ground.wetSet(tried.hours) == 0 && tried.isInForce(k)) {
                return i;
            }
            tried.passHour();
        }
        return NONE;
    }

    public int leaners(int k) {
        return ground.hasClause(k) ? ground.leanersOf(k) : UNKNOWN;
    }

    public int storms(int n, int q) {
        if (n < 0 || n > MOST_STORM_HOURS || q < 0 || q > HUNDRED) {
            return OUTSIDE;
        }
        long odds = BILLION;
        for (int i = 0; i < n; i++) {
            odds = odds * (HUNDRED - q) / HUNDRED;
        }
        return (int) odds;
    }

    // ---- what was seen

    public int see(int k, int h, boolean is) {
        if (!ground.hasClause(k)) {
            return UNKNOWN;
        }
        if (h < 0 || h > MOST_SEEN_HOURS) {
            return OUTSIDE;
        }
        return sightings.add(k, h, is) ? sightings.count : FULL;
    }

    public int agreed(int what) {
        if (what < 0 || what > 2) {
            return OUTSIDE;
        }
        int begins = sightings.begins();
        if (what == 0) {
            return Integer.bitCount(begins);
        }
        if (what == 1) {
            return begins == 0 ? NONE : Integer.numberOfTrailingZeros(begins);
        }
        return begins;
    }

    public int lookAt(int h) {
        if (h < 0 || h > MOST_SEEN_HOURS) {
            return OUTSIDE;
        }
        int begins = sightings.begins();
        sightings.countInForce(begins, h);
        return sightings.bestToAsk(Integer.bitCount(begins));
    }

    public int note(int k, int c) {
        if (!ground.hasClause(k) || (c != NONE && !ground.hasCell(c))) {
            return UNKNOWN;
        }
        return book.add(k, c) ? book.count : FULL;
    }

    public int judge() {
        return book.firstWrong(now);
    }

    public int tear() {
        int had = sightings.count + book.count;
        sightings.forget();
        book.forget();
        return had;
    }

    // ---- images

    public int seed(int v) {
        if (v < 0) {
            return OUTSIDE;
        }
        int before = dice.value;
        dice.value = v;
        return before;
    }

    public int keep(int i) {
        if (i < 0 || i >= IMAGES) {
            return UNKNOWN;
        }
        images.take(i, now, dice);
        past.forget();
        return 1;
    }

    public int goBack(int i) {
        if (i < 0 || i >= IMAGES) {
            return UNKNOWN;
        }
        if (!images.has(i)) {
            return NOT;
        }
        images.restore(i, now, dice);
        past.forget();
        return 1;
    }

    /** What a text tells: tides, wind, cells, clauses. Without tides there is no strand. */
    private static final class Strand {
        final int[] tides = new int[MOST_TIDES];
        final int[] heights = new int[MOST_CELLS];
        final int[] takes = new int[MOST_CLAUSES];
        final int[] leans = new int[MOST_CLAUSES];
        final int[] worthOne = new int[MOST_CLAUSES];
        final int[] worthOther = new int[MOST_CLAUSES];
        int tideCount;
        int wind;
        int cellCount;
        int clauseCount;

        void empty() {
            tideCount = 0;
            wind = 0;
            cellCount = 0;
            clauseCount = 0;
        }

        void become(Strand other) {
            System.arraycopy(other.tides, 0, tides, 0, MOST_TIDES);
            System.arraycopy(other.heights, 0, heights, 0, MOST_CELLS);
            System.arraycopy(other.takes, 0, takes, 0, MOST_CLAUSES);
            System.arraycopy(other.leans, 0, leans, 0, MOST_CLAUSES);
            System.arraycopy(other.worthOne, 0, worthOne, 0, MOST_CLAUSES);
            System.arraycopy(other.worthOther, 0, worthOther, 0, MOST_CLAUSES);
            tideCount = other.tideCount;
            wind = other.wind;
            cellCount = other.cellCount;
            clauseCount = other.clauseCount;
        }

        void addTide(int tide) {
            if (tideCount < MOST_TIDES) {
                tides[tideCount] = tide;
                tideCount++;
            }
        }

        void addCell(int height) {
            if (cellCount < MOST_CELLS) {
                heights[cellCount] = height;
                cellCount++;
            }
        }

        void addClause(int hours, int lean, int one, int other) {
            if (clauseCount < MOST_CLAUSES) {
                takes[clauseCount] = hours;
                leans[clauseCount] = lean;
                worthOne[clauseCount] = one;
                worthOther[clauseCount] = other;
                clauseCount++;
            }
        }

        boolean isTold() {
            return tideCount > 0;
        }

        boolean hasClause(int k) {
            return k >= 0 && k < clauseCount;
        }

        boolean hasCell(int c) {
            return c >= 0 && c < cellCount;
        }

        boolean hasSet(int set) {
            return set >= 0 && set < (1 << clauseCount);
        }

        int tideAt(int hour) {
            if (tideCount <= 0 || hour < 0) {
                return 0;
            }
            return tides[hour % tideCount];
        }

        boolean isWet(int c, int hour) {
            return hasCell(c) && tideAt(hour) >= heights[c];
        }

        int wetSet(int hour) {
            int set = 0;
            for (int c = 0; c < cellCount; c++) {
                if (isWet(c, hour)) {
                    set |= 1 << c;
                }
            }
            return set;
        }

        /** The first of the hours from .. end - 1 in which the cell is wet (or is not); end: none. */
        int firstHour(int c, boolean wet, int from, int end) {
            for (int hour = from; hour < end; hour++) {
                if (isWet(c, hour) == wet) {
                    return hour;
                }
            }
            return end;
        }

        /** A clause leans only on ones told ahead of it, so one way up finds them all. */
        int leanersOf(int k) {
            int below = 1 << k;
            for (int other = k + 1; other < clauseCount; other++) {
                if (hasClause(leans[other]) && (below >> leans[other] & 1) != 0) {
                    below |= 1 << other;
                }
            }
            return below & ~(1 << k);
        }

        int worthOf(int set, boolean one) {
            int worth = 0;
            for (int k = 0; k < clauseCount; k++) {
                if ((set >> k & 1) != 0) {
                    worth += one ? worthOne[k] : worthOther[k];
                }
            }
            return worth;
        }

        int hoursOf(int set) {
            int hours = 0;
            for (int k = 0; k < clauseCount; k++) {
                if ((set >> k & 1) != 0) {
                    hours += takes[k];
                }
            }
            return hours;
        }

        /** Whether all that the set's clauses lean on is in the set, too. */
        boolean isWhole(int set) {
            for (int k = 0; k < clauseCount; k++) {
                if ((set >> k & 1) != 0 && hasClause(leans[k]) && (set >> leans[k] & 1) == 0) {
                    return false;
                }
            }
            return true;
        }
    }

    /** Holds the text and reads it into a draft, up to its first fault. */
    private static final class Reader {
        static final int CANNOT_STAND = 1;
        static final int BAD_NUMBER = 2;
        static final int TOO_MANY = 3;

        final int[] letters = new int[MOST_LETTERS];
        final Strand draft = new Strand();
        int length;
        int at;
        int numberAt;
        boolean windTold;
        int faultKind;
        int faultAt;

        Reader() {
            faultAt = NONE;
        }

        boolean add(int letter) {
            if (length >= MOST_LETTERS) {
                return false;
            }
            letters[length] = letter;
            length++;
            return true;
        }

        /** The text is empty behind this. */
        void read() {
            at = 0;
            windTold = false;
            faultKind = 0;
            faultAt = NONE;
            draft.empty();
            // Blanks may stand anywhere, so a text of nothing else tells no more than an empty one.
            if (nextLetter() != NONE) {
                readTides();
                for (int n = 0; n < MOST_LETTERS && faultKind == 0 && nextLetter() != NONE; n++) {
                    readPart();
                }
            }
            length = 0;
        }

        /** Only the first fault counts, and the text is read from its front. */
        private void fail(int kind, int where) {
            if (faultKind == 0) {
                faultKind = kind;
                faultAt = where;
            }
        }

        /** The letter behind blanks; NONE at the end. */
        private int nextLetter() {
            while (at < length && letters[at] == ' ') {
                at++;
            }
            return at < length ? letters[at] : NONE;
        }

        private static boolean isFigure(int letter) {
            return letter >= '0' && letter <= '9';
        }

        private int readNumber(int least, int most) {
            if (!isFigure(nextLetter())) {
                fail(CANNOT_STAND, at);
                return least;
            }
            numberAt = at;
            int value = 0;
            while (at < length && isFigure(letters[at])) {
                if (at - numberAt < MOST_FIGURES) {
                    value = value * 10 + letters[at] - '0';
                }
                at++;
            }
            if (at - numberAt > MOST_FIGURES || value < least || value > most) {
                fail(BAD_NUMBER, numberAt);
                return least;
            }
            return value;
        }

        private void readEnd() {
            if (nextLetter() != ';') {
                fail(CANNOT_STAND, at);
            }
            at++;
        }

        private void readTides() {
            if (nextLetter() != 't') {
                fail(CANNOT_STAND, at);
                return;
            }
            at++;
            draft.wind = MOST_WIND;
            draft.addTide(readNumber(0, MOST_HEIGHT));
            for (int n = 1; n < MOST_TIDES && nextLetter() == ','; n++) {
                at++;
                draft.addTide(readNumber(0, MOST_HEIGHT));
            }
            readEnd();
        }

        private void readPart() {
            switch (nextLetter()) {
                case 'w': readWind(); break;
                case 'c': readCell(); break;
                case 'k': readClause(); break;
                case 't': fail(TOO_MANY, at); break;
                default: fail(CANNOT_STAND, at); break;
            }
        }

        private void readWind() {
            if (windTold) {
                fail(TOO_MANY, at);
                return;
            }
            at++;
            windTold = true;
            draft.wind = readNumber(1, MOST_WIND);
            readEnd();
        }

        private void readCell() {
            if (draft.cellCount >= MOST_CELLS) {
                fail(TOO_MANY, at);
                return;
            }
            at++;
            draft.addCell(readNumber(0, MOST_HEIGHT));
            readEnd();
        }

        private void readClause() {
            if (draft.clauseCount >= MOST_CLAUSES) {
                fail(TOO_MANY, at);
                return;
            }
            at++;
            int hours = readNumber(1, MOST_TAKES);
            int lean = readLean();
            int one = readNumber(0, MOST_WORTH) - WORTH_MORE;
            int other = readNumber(0, MOST_WORTH) - WORTH_MORE;
            readEnd();
            draft.addClause(hours, lean, one, other);
        }

        private int readLean() {
            int lean = readNumber(0, LEANS_ON_NONE);
            if (lean == LEANS_ON_NONE) {
                return NONE;
            }
            if (!draft.hasClause(lean)) {
                fail(BAD_NUMBER, numberAt);
            }
            return lean;
        }
    }

    /** All that hours and deeds change: where each clause is, the stick, the peace. */
    private static final class Sand {
        /** Numbers that save() puts down. */
        static final int SIZE = 4 + 3 * MOST_CLAUSES;

        final Strand ground;
        final int[] cellOf = new int[MOST_CLAUSES];
        final int[] written = new int[MOST_CLAUSES];
        final int[] dry = new int[MOST_CLAUSES];
        int hours;
        int stick;
        int peaceOne;
        int peaceOther;

        Sand(Strand ground) {
            this.ground = ground;
            restart();
        }

        void restart() {
            hours = 0;
            stick = NONE;
            peaceOne = 0;
            peaceOther = 0;
            for (int k = 0; k < MOST_CLAUSES; k++) {
                remove(k);
            }
        }

        void copy(Sand other) {
            hours = other.hours;
            stick = other.stick;
            peaceOne = other.peaceOne;
            peaceOther = other.peaceOther;
            System.arraycopy(other.cellOf, 0, cellOf, 0, MOST_CLAUSES);
            System.arraycopy(other.written, 0, written, 0, MOST_CLAUSES);
            System.arraycopy(other.dry, 0, dry, 0, MOST_CLAUSES);
        }

        void save(int[] rows, int from) {
            if (from < 0 || from > rows.length - SIZE) {
                return;
            }
            rows[from] = hours;
            rows[from + 1] = stick;
            rows[from + 2] = peaceOne;
            rows[from + 3] = peaceOther;
            System.arraycopy(cellOf, 0, rows, from + 4, MOST_CLAUSES);
            System.arraycopy(written, 0, rows, from + 4 + MOST_CLAUSES, MOST_CLAUSES);
            System.arraycopy(dry, 0, rows, from + 4 + 2 * MOST_CLAUSES, MOST_CLAUSES);
        }

        void load(int[] rows, int from) {
            if (from < 0 || from > rows.length - SIZE) {
                return;
            }
            hours = rows[from];
            stick = rows[from + 1];
            peaceOne = rows[from + 2];
            peaceOther = rows[from + 3];
            System.arraycopy(rows, from + 4, cellOf, 0, MOST_CLAUSES);
            System.arraycopy(rows, from + 4 + MOST_CLAUSES, written, 0, MOST_CLAUSES);
            System.arraycopy(rows, from + 4 + 2 * MOST_CLAUSES, dry, 0, MOST_CLAUSES);
        }

        boolean isNowhere(int k) {
            return k < 0 || k >= MOST_CLAUSES || cellOf[k] == NONE;
        }

        int clauseIn(int c) {
            for (int k = 0; k < ground.clauseCount; k++) {
                if (cellOf[k] == c) {
                    return k;
                }
            }
            return NONE;
        }

        boolean mayWrite(int k, int c) {
            return stick == NONE && isNowhere(k) && !ground.isWet(c, hours) && clauseIn(c) == NONE;
        }

        void begin(int k, int c) {
            if (ground.hasClause(k) && ground.hasCell(c)) {
                cellOf[k] = c;
                written[k] = 0;
                dry[k] = 0;
                stick = k;
            }
        }

        void freeStick() {
            stick = NONE;
        }

        void remove(int k) {
            if (k < 0 || k >= MOST_CLAUSES) {
                return;
            }
            cellOf[k] = NONE;
            written[k] = 0;
            dry[k] = 0;
            if (stick == k) {
                stick = NONE;
            }
        }

        int removeAll() {
            int went = 0;
            for (int k = 0; k < ground.clauseCount; k++) {
                if (!isNowhere(k)) {
                    remove(k);
                    went++;
                }
            }
            return went;
        }

        /** All clauses are done and lie in the cells of their numbers at this hour. */
        void layAll(int hour) {
            restart();
            hours = hour;
            for (int k = 0; k < ground.clauseCount && k < ground.cellCount; k++) {
                cellOf[k] = k;
                written[k] = ground.takes[k];
            }
        }

        boolean isDone(int k) {
            return !isNowhere(k) && written[k] >= ground.takes[k];
        }

        /** A clause leans only on ones told ahead of it: these are judged already when it comes. */
        int forceSet() {
            int set = 0;
            for (int k = 0; k < ground.clauseCount; k++) {
                int lean = ground.leans[k];
                if (isDone(k) && (lean == NONE || (set >> lean & 1) != 0)) {
                    set |= 1 << k;
                }
            }
            return set;
        }

        boolean isInForce(int k) {
            return ground.hasClause(k) && (forceSet() >> k & 1) != 0;
        }

        void passHour() {
            for (int k = 0; k < ground.clauseCount; k++) {
                if (!isNowhere(k)) {
                    age(k);
                }
            }
            hours++;
            int set = forceSet();
            peaceOne += ground.worthOf(set, true);
            peaceOther += ground.worthOf(set, false);
        }

        private void age(int k) {
            if (ground.isWet(cellOf[k], hours)) {
                remove(k);
            } else if (stick == k) {
                written[k]++;
                if (isDone(k)) {
                    stick = NONE;
                }
            } else if (isDone(k)) {
                dry[k]++;
                if (dry[k] > ground.wind) {
                    remove(k);
                }
            }
        }
    }

    /** What was so ahead of each of the latest deeds, in a ring. */
    private static final class Past {
        final int[] rows = new int[MOST_UNDONE * Sand.SIZE];
        int next;
        int count;

        void add(Sand sand) {
            sand.save(rows, next * Sand.SIZE);
            next = (next + 1) % MOST_UNDONE;
            if (count < MOST_UNDONE) {
                count++;
            }
        }

        void restore(Sand sand, int n) {
            if (n < 1 || n > count) {
                return;
            }
            next = (next + MOST_UNDONE - n) % MOST_UNDONE;
            count -= n;
            sand.load(rows, next * Sand.SIZE);
        }

        void forget() {
            next = 0;
            count = 0;
        }
    }

    private static final class Images {
        final int[] rows = new int[IMAGES * Sand.SIZE];
        final int[] seeds = new int[IMAGES];
        final boolean[] kept = new boolean[IMAGES];

        boolean has(int i) {
            return i >= 0 && i < IMAGES && kept[i];
        }

        void take(int i, Sand sand, Dice dice) {
            if (i >= 0 && i < IMAGES) {
                sand.save(rows, i * Sand.SIZE);
                seeds[i] = dice.value;
                kept[i] = true;
            }
        }

        void restore(int i, Sand sand, Dice dice) {
            if (has(i)) {
                sand.load(rows, i * Sand.SIZE);
                dice.value = seeds[i];
            }
        }

        void forget() {
            for (int i = 0; i < IMAGES; i++) {
                kept[i] = false;
            }
        }
    }

    private static final class Dice {
        int value;

        int next(int n) {
            value = (int) ((value * 1103515245L + 12345L) & 0x7fffffffL);
            return n > 0 ? value / 65536 % n : 0;
        }
    }

    /**
     * Tries orders and cells, lesser ones first. A clause that went is not written again, so each must stand
     * until all is over, and no two share a cell: from its begin on, its cell alone tells until when it stands.
     */
    private static final class Planner {
        final Strand ground;
        final int[] order = new int[PLAN_CLAUSES];
        final int[] bestOrder = new int[PLAN_CLAUSES];
        int set;
        int size;
        int stands;
        int start;
        int best;

        Planner(Strand ground) {
            this.ground = ground;
        }

        void search(int clauses, int hours, int hour) {
            set = clauses;
            // No more than the rows hold, whatever set comes.
            size = Math.min(Integer.bitCount(clauses), PLAN_CLAUSES);
            stands = hours;
            start = hour;
            best = PLAN_HOURS + 1;
            if (ground.isWhole(clauses)) {
                place(this, 0, hour, hour + PLAN_HOURS);
            }
        }

        int soonest() {
            return best > PLAN_HOURS ? NONE : best;
        }

        int placed(int i) {
            return best > PLAN_HOURS || i < 0 || i >= size ? NONE : bestOrder[i];
        }

        /** The stick is free at the hour from; what was placed so far stands until the hour until. */
        private static void place(Planner p, int depth, int from, int until) {
            if (depth < 0 || depth >= p.size) {
                p.offer(from, until);
                return;
            }
            for (int k = 0; k < p.ground.clauseCount; k++) {
                if ((p.set >> k & 1) == 0 || p.isPlaced(k, depth)) {
                    continue;
                }
                for (int c = 0; c < p.ground.cellCount; c++) {
                    if (p.isTaken(c, depth)) {
                        continue;
                    }
                    int begun = p.ground.firstHour(c, false, from, until);
                    int done = begun + p.ground.takes[k];
                    int end = Math.min(until, p.ground.firstHour(c, true, begun, done + p.ground.wind));
                    if (p.isBetter(done, end)) {
                        p.order[depth] = k + 10 * c;
                        place(p, depth + 1, done, end);
                    }
                }
            }
        }

        /** Whether the last of the hours, counted from this end on, comes while all stands and sooner than the best. */
        private boolean isBetter(int done, int until) {
            int last = done + stands - 1;
            return last <= until && last - start < best;
        }

        private boolean isPlaced(int k, int depth) {
            for (int i = 0; i < depth && i < PLAN_CLAUSES; i++) {
                if (order[i] % 10 == k) {
                    return true;
                }
            }
            return false;
        }

        private boolean isTaken(int c, int depth) {
            for (int i = 0; i < depth && i < PLAN_CLAUSES; i++) {
                if (order[i] / 10 == c) {
                    return true;
                }
            }
            return false;
        }

        private void offer(int done, int until) {
            if (isBetter(done, until)) {
                best = done + stands - 1 - start;
                System.arraycopy(order, 0, bestOrder, 0, PLAN_CLAUSES);
            }
        }
    }

    /** The shores' choices, weighed from the last turn back to the first. */
    private static final class Turns {
        final Strand ground;
        /** For each set that is chosen so far: the set in which the turns from here on end. */
        final int[] ends = new int[1 << MOST_CLAUSES];

        Turns(Strand ground) {
            this.ground = ground;
        }

        int settle(int set, int n, int ebb) {
            for (int chosen = 0; chosen < ends.length; chosen++) {
                ends[chosen] = chosen;
            }
            for (int turn = n - 1; turn >= 0; turn--) {
                boolean one = turn % 2 == 0;
                // Rising, as a choice leads to a greater set, whose end must still be the next turn's.
                for (int chosen = 0; chosen <= set && chosen < ends.length; chosen++) {
                    ends[chosen] = choose(set, chosen, ebb, one);
                }
            }
            return ends[0];
        }

        private int choose(int set, int chosen, int ebb, boolean one) {
            if (chosen < 0 || chosen >= ends.length) {
                return 0;
            }
            int best = ends[chosen];
            int most = ground.worthOf(best, one);
            int left = ebb - ground.hoursOf(chosen);
            for (int k = 0; k < ground.clauseCount; k++) {
                boolean free = (set >> k & 1) != 0 && (chosen >> k & 1) == 0;
                if (free && ground.takes[k] <= left) {
                    int end = ends[chosen | 1 << k];
                    int worth = ground.worthOf(end, one);
                    if (worth > most) {
                        most = worth;
                        best = end;
                    }
                }
            }
            return best;
        }
    }

    /** What was seen, and the hours of begin that agree with it. */
    private static final class Sightings {
        final Strand ground;
        final Sand tried;
        final int[] clauses = new int[MOST_SEEN];
        final int[] hours = new int[MOST_SEEN];
        final boolean[] so = new boolean[MOST_SEEN];
        /** By how many begins each clause is in force, as last counted. */
        final int[] inForce = new int[MOST_CLAUSES];
        int count;

        Sightings(Strand ground, Sand tried) {
            this.ground = ground;
            this.tried = tried;
        }

        boolean add(int k, int h, boolean is) {
            if (count >= MOST_SEEN) {
                return false;
            }
            clauses[count] = k;
            hours[count] = h;
            so[count] = is;
            count++;
            return true;
        }

        void forget() {
            count = 0;
        }

        int begins() {
            int set = 0;
            for (int begin = 0; begin < BEGINS && ground.isTold(); begin++) {
                if (fits(begin)) {
                    set |= 1 << begin;
                }
            }
            return set;
        }

        private boolean fits(int begin) {
            int latest = latestHour();
            tried.layAll(begin);
            for (int h = 0; h <= latest; h++) {
                if (!fitsBehind(h, tried.forceSet())) {
                    return false;
                }
                tried.passHour();
            }
            return true;
        }

        private int latestHour() {
            int latest = NONE;
            for (int i = 0; i < count; i++) {
                latest = Math.max(latest, hours[i]);
            }
            return latest;
        }

        private boolean fitsBehind(int h, int force) {
            for (int i = 0; i < count; i++) {
                boolean stood = (force >> clauses[i] & 1) != 0;
                if (hours[i] == h && stood != so[i]) {
                    return false;
                }
            }
            return true;
        }

        void countInForce(int begins, int h) {
            for (int k = 0; k < MOST_CLAUSES; k++) {
                inForce[k] = 0;
            }
            for (int begin = 0; begin < BEGINS; begin++) {
                if ((begins >> begin & 1) != 0) {
                    addForce(forceBehind(begin, h));
                }
            }
        }

        private int forceBehind(int begin, int h) {
            tried.layAll(begin);
            for (int i = 0; i < h; i++) {
                tried.passHour();
            }
            return tried.forceSet();
        }

        private void addForce(int force) {
            for (int k = 0; k < MOST_CLAUSES; k++) {
                inForce[k] += force >> k & 1;
            }
        }

        /** The clause that parts so many begins best, by what was counted. */
        int bestToAsk(int all) {
            int best = NONE;
            int least = all;
            for (int k = 0; k < ground.clauseCount; k++) {
                int part = Math.max(inForce[k], all - inForce[k]);
                if (part < least) {
                    least = part;
                    best = k;
                }
            }
            return best;
        }
    }

    private static final class Book {
        final int[] clauses = new int[BOOK_ENTRIES];
        final int[] cells = new int[BOOK_ENTRIES];
        int count;

        boolean add(int k, int c) {
            if (count >= BOOK_ENTRIES) {
                return false;
            }
            clauses[count] = k;
            cells[count] = c;
            count++;
            return true;
        }

        void forget() {
            count = 0;
        }

        int firstWrong(Sand sand) {
            for (int i = 0; i < count; i++) {
                int k = clauses[i];
                if (k < 0 || k >= MOST_CLAUSES || sand.cellOf[k] != cells[i]) {
                    return i;
                }
            }
            return NONE;
        }
    }
}
