/** A cache of lines with helpers that fetch lines ahead, and work for the lines that they fetch in vain. */
public final class ParoleCache {
    public static final int UNKNOWN = -100001;
    public static final int BAD_VALUE = -100002;
    public static final int FULL = -100003;
    public static final int NOT_POSSIBLE = -100004;
    public static final int NONE = -100005;

    private static final int MAX_LINE = 9999;
    private static final int MAX_PROGRAM = 15;
    private static final int MAX_SETS = 8;
    private static final int MAX_WAYS = 4;
    private static final int MAX_HELPERS = 6;
    private static final int MAX_KIND = 2;
    private static final int MAX_DEGREE = 4;
    private static final int MAX_PRICE = 9;
    private static final int MAX_TRIAL = 9;
    private static final int MAX_STRIDE = 999;
    private static final int MAX_COUNT = 30;
    private static final int MAX_TEXT = 80;
    private static final int MAX_HISTORY = 4;
    private static final int MAX_THROWN = 8;
    private static final int MAX_LOG = 12;
    private static final int MAX_ROWS = 4;
    private static final int MAX_STREAMS = 3;
    private static final int MAX_TRUST = 3;
    private static final int MAX_LENGTH = 9;
    private static final int STREAM_NEAR = 4;
    private static final int ASKING_STRENGTH = 2;
    private static final int HARM_HOURS = 2;
    private static final int FAULT_BASE = -100;

    private static final int STRIDE = 0;
    private static final int STREAM = 1;
    private static final int NEXT = 2;

    private static final int FREE = 0;
    private static final int ON_PROBATION = 1;
    private static final int AT_WORK = 2;

    private static final int MISS = 0;
    private static final int OLD_HIT = 1;
    private static final int NEW_HIT = 2;

    // The columns of a set of the cache.
    private static final int SET_LINE = 0;
    private static final int SET_FETCHER = 1;
    private static final int SET_NEW = 2;
    private static final int SET_COLUMNS = 3;

    // The columns of the thrown-out lines.
    private static final int THROWN_LINE = 0;
    private static final int THROWN_BY = 1;
    private static final int THROWN_COLUMNS = 2;

    // The columns of a helper's table, numbered as table() asks for them.
    private static final int ROW_PROGRAM = 0;
    private static final int ROW_LATEST = 1;
    private static final int ROW_STEP = 2;
    private static final int ROW_STRENGTH = 3;
    private static final int ROW_COLUMNS = 4;

    // The columns of the log, numbered as logged() asks for them.
    private static final int LOG_PROGRAM = 0;
    private static final int LOG_LINE = 1;
    private static final int LOG_OUTCOME = 2;
    private static final int LOG_AHEAD = 3;
    private static final int LOG_NUMBER = 4;
    private static final int LOG_COLUMNS = 5;

    private final State current;
    private final State scratch;
    private final State snapshot;
    private final State[] history;
    private final Trace trace;
    private boolean hasSnapshot;
    private int historySize;

    public ParoleCache() {
        current = new State();
        scratch = new State();
        snapshot = new State();
        history = new State[MAX_HISTORY];
        for (int i = 0; i < MAX_HISTORY; i++) {
            history[i] = new State();
        }
        trace = new Trace();
        hasSnapshot = false;
        historySize = 0;
    }

    // ---- the cache and its helpers

    public int shape(int sets, int ways) {
        if (isOutside(sets, 1, MAX_SETS) || isOutside(ways, 1, MAX_WAYS)) {
            return BAD_VALUE;
        }
        if (sets == current.setCount && ways == current.wayCount) {
            return NONE;
        }
        remember();
        int lines = current.throwAllOut();
        current.thrown.size = 0;
        current.setCount = sets;
        current.wayCount = ways;
        return lines;
    }

    public int flush() {
        if (current.linesInCache() == 0) {
            return NONE;
        }
        remember();
        return current.throwAllOut();
    }

    public int addHelper(int kind, int degree, int price) {
        if (isOutside(kind, 0, MAX_KIND) || isOutside(degree, 1, MAX_DEGREE) || isOutside(price, 1, MAX_PRICE)) {
            return BAD_VALUE;
        }
        if (current.helperCount >= MAX_HELPERS) {
            return FULL;
        }
        remember();
        return current.hire(kind, degree, price);
    }

    public int setDegree(int helper, int degree) {
        Helper asked = current.helperAt(helper);
        if (asked == null) {
            return UNKNOWN;
        }
        if (isOutside(degree, 1, MAX_DEGREE)) {
            return BAD_VALUE;
        }
        if (asked.degree == degree) {
            return NONE;
        }
        remember();
        int previous = asked.degree;
        asked.degree = degree;
        return previous;
    }

    public int setTrial(int lines) {
        if (isOutside(lines, 1, MAX_TRIAL)) {
            return BAD_VALUE;
        }
        if (current.trial == lines) {
            return NONE;
        }
        remember();
        int previous = current.trial;
        current.trial = lines;
        return previous;
    }

    public int pardon(int helper) {
        Helper asked = current.helperAt(helper);
        if (asked == null) {
            return UNKNOWN;
        }
        if (asked.state == FREE) {
            return NONE;
        }
        remember();
        return asked.release();
    }

    public int forget(int helper) {
        Helper asked = current.helperAt(helper);
        if (asked == null) {
            return UNKNOWN;
        }
        if (asked.kind == NEXT) {
            return NOT_POSSIBLE;
        }
        if (asked.table.size == 0) {
            return NONE;
        }
        remember();
        int rows = asked.table.size;
        asked.table.size = 0;
        return rows;
    }

    // ---- accesses

    public int access(int program, int line) {
        if (isOutside(program, 0, MAX_PROGRAM) || isOutside(line, 0, MAX_LINE)) {
            return BAD_VALUE;
        }
        remember();
        return current.perform(program, line);
    }

    public int walk(int program, int line, int stride, int count) {
        if (!isWalk(program, line, stride, count)) {
            return BAD_VALUE;
        }
        remember();
        return current.performWalk(program, line, stride, count);
    }

    // ---- texts

    public int type(char character) {
        return trace.append(character) ? trace.length : FULL;
    }

    public int clearText() {
        int length = trace.length;
        trace.length = 0;
        return length;
    }

    public int run() {
        int fault = trace.fault();
        if (fault >= 0) {
            return FAULT_BASE - fault;
        }
        remember();
        return trace.performOn(current);
    }

    // ---- history

    public int undo() {
        if (historySize < 1 || historySize > MAX_HISTORY) {
            return NONE;
        }
        historySize--;
        current.copyFrom(history[historySize]);
        return historySize;
    }

    public int keep() {
        snapshot.copyFrom(current);
        hasSnapshot = true;
        return current.accesses;
    }

    public int restore() {
        if (!hasSnapshot) {
            return NONE;
        }
        remember();
        current.copyFrom(snapshot);
        return current.accesses;
    }

    // ---- what is told

    public int line(int line, int what) {
        if (isOutside(line, 0, MAX_LINE)) {
            return UNKNOWN;
        }
        Rows set = current.setOf(line);
        int place = set.find(line);
        int thrownPlace = current.thrown.find(line);
        switch (what) {
            case 0: return place >= 0 ? 1 : 0;
            case 1: return place >= 0 && set.get(place, SET_NEW) == 1 ? 1 : 0;
            case 2: return set.get(place, SET_FETCHER);
            case 3: return place;
            case 4: return thrownPlace;
            case 5: return current.thrown.get(thrownPlace, THROWN_BY);
            default: return BAD_VALUE;
        }
    }

    public int inSet(int set, int place) {
        if (isOutside(set, 0, current.setCount - 1)) {
            return UNKNOWN;
        }
        return place < 0 ? BAD_VALUE : current.setAt(set).get(place, SET_LINE);
    }

    public int thrownOut(int place) {
        return place < 0 ? BAD_VALUE : current.thrown.get(place, THROWN_LINE);
    }

    public int helper(int helper, int what) {
        Helper asked = current.helperAt(helper);
        if (asked == null) {
            return UNKNOWN;
        }
        switch (what) {
            case 0: return asked.kind;
            case 1: return asked.degree;
            case 2: return asked.price;
            case 3: return asked.state;
            case 4: return asked.hours;
            case 5: return asked.linesLeft;
            case 6: return asked.reach();
            case 7: return asked.fetched;
            case 8: return asked.used;
            case 9: return asked.vain;
            case 10: return current.newLinesOf(helper);
            case 11: return asked.harms;
            case 12: return asked.worked;
            case 13: return asked.pardoned;
            case 14: return asked.table.size;
            case 15: return asked.probations;
            default: return BAD_VALUE;
        }
    }

    public int table(int helper, int place, int what) {
        Helper asked = current.helperAt(helper);
        if (asked == null) {
            return UNKNOWN;
        }
        if (place < 0 || isOutside(what, 0, ROW_COLUMNS - 1)) {
            return BAD_VALUE;
        }
        return asked.table.get(place, what);
    }

    public int wouldAsk(int helper, int program, int line, int place) {
        if (current.helperAt(helper) == null) {
            return UNKNOWN;
        }
        if (isOutside(program, 0, MAX_PROGRAM) || isOutside(line, 0, MAX_LINE) || place < 0) {
            return BAD_VALUE;
        }
        scratch.copyFrom(current);
        scratch.perform(program, line);
        Helper asked = scratch.helperAt(helper);
        return asked == null ? NONE : asked.wishAt(place);
    }

    public int wouldHit(int program, int line, int stride, int count) {
        if (!isWalk(program, line, stride, count)) {
            return BAD_VALUE;
        }
        scratch.copyFrom(current);
        return scratch.performWalk(program, line, stride, count);
    }

    public int bestHelper() {
        int best = NONE;
        int bestMerit = 0;
        for (int i = 0; i < current.helperCount; i++) {
            int merit = current.helpers[i].used - current.helpers[i].vain;
            if (best == NONE || merit > bestMerit) {
                best = i;
                bestMerit = merit;
            }
        }
        return best;
    }

    public int logged(int back, int what) {
        if (back < 0 || isOutside(what, 0, LOG_COLUMNS - 1)) {
            return BAD_VALUE;
        }
        return current.log.get(current.log.size - 1 - back, what);
    }

    public int count(int what) {
        switch (what) {
            case 0: return current.accesses;
            case 1: return current.hits;
            case 2: return current.newHits;
            case 3: return current.accesses - current.hits;
            case 4: return current.fetchedAhead;
            case 5: return current.thrownTotal;
            case 6: return current.setCount;
            case 7: return current.wayCount;
            case 8: return current.linesInCache();
            case 9: return current.newLines();
            case 10: return current.helperCount;
            case 11: return current.trial;
            case 12: return current.allHours();
            case 13: return current.thrown.size;
            case 14: return historySize;
            case 15: return trace.length;
            case 16: return current.programsInLog();
            default: return BAD_VALUE;
        }
    }

    // ---- inside

    private static boolean isOutside(int value, int least, int greatest) {
        return value < least || value > greatest;
    }

    private static boolean isWalk(int program, int line, int stride, int count) {
        if (isOutside(program, 0, MAX_PROGRAM) || isOutside(line, 0, MAX_LINE)) {
            return false;
        }
        if (isOutside(stride, -MAX_STRIDE, MAX_STRIDE) || isOutside(count, 1, MAX_COUNT)) {
            return false;
        }
        // The lines of a walk go one way, so the last one is the only other one that can be outside.
        return !isOutside(line + stride * (count - 1), 0, MAX_LINE);
    }

    /** Records the current state; the state that is dropped for it is used again, so that none is made. */
    private void remember() {
        if (historySize >= MAX_HISTORY) {
            State oldest = history[0];
            for (int i = 0; i + 1 < MAX_HISTORY; i++) {
                history[i] = history[i + 1];
            }
            history[MAX_HISTORY - 1] = oldest;
            historySize = MAX_HISTORY - 1;
        }
        history[historySize].copyFrom(current);
        historySize++;
    }

    /** Rows of numbers in an order, the oldest one first, with room for a fixed number of them. */
    private static final class Rows {
        private final int capacity;
        private final int columns;
        private final int[] cells;
        private int size;

        private Rows(int capacity, int columns) {
            this.capacity = Math.max(1, capacity);
            this.columns = Math.max(1, columns);
            this.cells = new int[this.capacity * this.columns];
            this.size = 0;
        }

        private void copyFrom(Rows other) {
            size = Math.min(other.size, capacity);
            for (int i = 0; i < cells.length && i < other.cells.length; i++) {
                cells[i] = other.cells[i];
            }
        }

        private boolean holds(int row, int column) {
            return row >= 0 && row < size && column >= 0 && column < columns;
        }

        /** The number in a cell; NONE if there is no such row, so that NONE as a row answers NONE too. */
        private int get(int row, int column) {
            return holds(row, column) ? cells[row * columns + column] : NONE;
        }

        private void put(int row, int column, int value) {
            if (holds(row, column)) {
                cells[row * columns + column] = value;
            }
        }

        /** The row whose first column has this value, or NONE. */
        private int find(int value) {
            for (int row = 0; row < size; row++) {
                if (cells[row * columns] == value) {
                    return row;
                }
            }
            return NONE;
        }

        /** Moves a row to the end, where the latest one is. */
        private void touch(int row) {
            if (row < 0 || row >= size) {
                return;
            }
            for (int column = 0; column < columns; column++) {
                int moved = cells[row * columns + column];
                for (int i = row; i + 1 < size; i++) {
                    cells[i * columns + column] = cells[(i + 1) * columns + column];
                }
                cells[(size - 1) * columns + column] = moved;
            }
        }

        private void remove(int row) {
            if (row >= 0 && row < size) {
                touch(row);
                size--;
            }
        }

        /** Opens a row at the end for its numbers to be put in; without room for it the oldest row becomes it. */
        private int open(int limit) {
            if (size < limit && size < capacity) {
                size++;
            } else {
                touch(0);
            }
            return size - 1;
        }
    }

    /** One helper: what it is, what it owes, what it has learned, and the lines that it asked for last. */
    private static final class Helper {
        private final Rows table;
        private final int[] wishes;
        private int wishCount;
        private int kind;
        private int degree;
        private int price;
        private int state;
        private int hours;
        private int linesLeft;
        private int fetched;
        private int used;
        private int vain;
        private int harms;
        private int worked;
        private int pardoned;
        private int probations;

        private Helper() {
            table = new Rows(MAX_ROWS, ROW_COLUMNS);
            wishes = new int[MAX_DEGREE];
            begin(STRIDE, 1, 1);
        }

        private void begin(int newKind, int newDegree, int newPrice) {
            kind = newKind;
            degree = newDegree;
            price = newPrice;
            state = FREE;
            hours = 0;
            linesLeft = 0;
            fetched = 0;
            used = 0;
            vain = 0;
            harms = 0;
            worked = 0;
            pardoned = 0;
            probations = 0;
            wishCount = 0;
            table.size = 0;
        }

        /** The wishes stay behind: each access makes them anew before they are read. */
        private void copyFrom(Helper other) {
            kind = other.kind;
            degree = other.degree;
            price = other.price;
            state = other.state;
            hours = other.hours;
            linesLeft = other.linesLeft;
            fetched = other.fetched;
            used = other.used;
            vain = other.vain;
            harms = other.harms;
            worked = other.worked;
            pardoned = other.pardoned;
            probations = other.probations;
            table.copyFrom(other.table);
        }

        private int reach() {
            switch (state) {
                case FREE: return degree;
                case ON_PROBATION: return 1;
                default: return 0;
            }
        }

        private void sentence(int moreHours) {
            hours += moreHours;
            state = AT_WORK;
            linesLeft = 0;
        }

        private void workOneHour(int trial) {
            if (state != AT_WORK) {
                return;
            }
            hours--;
            worked++;
            if (hours < 1) {
                state = ON_PROBATION;
                linesLeft = trial;
                probations++;
            }
        }

        private void lineWasUsed() {
            used++;
            if (state == ON_PROBATION) {
                linesLeft--;
                if (linesLeft < 1) {
                    linesLeft = 0;
                    state = FREE;
                }
            }
        }

        private int release() {
            int had = hours;
            pardoned += had;
            hours = 0;
            linesLeft = 0;
            state = FREE;
            return had;
        }

        /** Learns from an access, and notes the lines that are asked for in it. */
        private void learn(int program, int line, int outcome) {
            wishCount = 0;
            switch (kind) {
                case STRIDE:
                    learnStride(program, line);
                    break;
                case STREAM:
                    if (outcome != OLD_HIT) {
                        learnStream(line);
                    }
                    break;
                default:
                    if (outcome == MISS) {
                        wish(line, 1);
                    }
                    break;
            }
        }

        private void learnStride(int program, int line) {
            int row = table.find(program);
            if (row < 0) {
                addRow(MAX_ROWS, program, line);
                return;
            }
            int step = line - table.get(row, ROW_LATEST);
            int stride = table.get(row, ROW_STEP);
            int trust = table.get(row, ROW_STRENGTH);
            if (step == stride && step != 0) {
                trust = Math.min(MAX_TRUST, trust + 1);
            } else {
                trust = Math.max(0, trust - 1);
                stride = trust == 0 ? step : stride;
            }
            updateRow(row, line, stride, trust);
        }

        private void learnStream(int line) {
            int row = streamNear(line);
            if (row < 0) {
                addRow(MAX_STREAMS, NONE, line);
                return;
            }
            int direction = line > table.get(row, ROW_LATEST) ? 1 : -1;
            int length = 1;
            if (direction == table.get(row, ROW_STEP)) {
                length = Math.min(MAX_LENGTH, table.get(row, ROW_STRENGTH) + 1);
            }
            updateRow(row, line, direction, length);
        }

        /** The stream to follow, the one that was touched latest of those that are near, or NONE. */
        private int streamNear(int line) {
            for (int row = table.size - 1; row >= 0; row--) {
                int away = Math.abs(line - table.get(row, ROW_LATEST));
                if (away >= 1 && away <= STREAM_NEAR) {
                    return row;
                }
            }
            return NONE;
        }

        private void addRow(int limit, int program, int line) {
            int row = table.open(limit);
            table.put(row, ROW_PROGRAM, program);
            table.put(row, ROW_LATEST, line);
            table.put(row, ROW_STEP, 0);
            table.put(row, ROW_STRENGTH, 0);
        }

        private void updateRow(int row, int line, int step, int strength) {
            table.put(row, ROW_LATEST, line);
            table.put(row, ROW_STEP, step);
            table.put(row, ROW_STRENGTH, strength);
            table.touch(row);
            if (strength >= ASKING_STRENGTH) {
                wish(line, step);
            }
        }

        /** Asks for the lines behind this one, as far as the reach goes now, before any of them is fetched. */
        private void wish(int line, int step) {
            int far = reach();
            for (int k = 1; k <= far && wishCount < wishes.length; k++) {
                int wished = line + k * step;
                if (!isOutside(wished, 0, MAX_LINE)) {
                    wishes[wishCount] = wished;
                    wishCount++;
                }
            }
        }

        private int wishAt(int place) {
            return place >= 0 && place < wishCount && place < wishes.length ? wishes[place] : NONE;
        }
    }

    /** All that undo() and restore() bring back. */
    private static final class State {
        private final Rows[] sets;
        private final Rows thrown;
        private final Helper[] helpers;
        private final Rows log;
        private int setCount;
        private int wayCount;
        private int helperCount;
        private int trial;
        private int accesses;
        private int hits;
        private int newHits;
        private int fetchedAhead;
        private int thrownTotal;

        private State() {
            sets = new Rows[MAX_SETS];
            for (int i = 0; i < MAX_SETS; i++) {
                sets[i] = new Rows(MAX_WAYS, SET_COLUMNS);
            }
            thrown = new Rows(MAX_THROWN, THROWN_COLUMNS);
            helpers = new Helper[MAX_HELPERS];
            for (int i = 0; i < MAX_HELPERS; i++) {
                helpers[i] = new Helper();
            }
            log = new Rows(MAX_LOG, LOG_COLUMNS);
            setCount = 4;
            wayCount = 2;
            helperCount = 0;
            trial = 3;
            accesses = 0;
            hits = 0;
            newHits = 0;
            fetchedAhead = 0;
            thrownTotal = 0;
        }

        private void copyFrom(State other) {
            for (int i = 0; i < MAX_SETS; i++) {
                sets[i].copyFrom(other.sets[i]);
            }
            thrown.copyFrom(other.thrown);
            for (int i = 0; i < MAX_HELPERS; i++) {
                helpers[i].copyFrom(other.helpers[i]);
            }
            log.copyFrom(other.log);
            setCount = other.setCount;
            wayCount = other.wayCount;
            helperCount = other.helperCount;
            trial = other.trial;
            accesses = other.accesses;
            hits = other.hits;
            newHits = other.newHits;
            fetchedAhead = other.fetchedAhead;
            thrownTotal = other.thrownTotal;
        }

        private Rows setAt(int number) {
            return sets[isOutside(number, 0, MAX_SETS - 1) ? 0 : number];
        }

        private Rows setOf(int line) {
            return setAt(setCount > 0 ? line % setCount : 0);
        }

        /** The helper of this number; null if there is none (NONE, which stands for a program, is none). */
        private Helper helperAt(int number) {
            return isOutside(number, 0, Math.min(helperCount, MAX_HELPERS) - 1) ? null : helpers[number];
        }

        private int hire(int kind, int degree, int price) {
            if (isOutside(helperCount, 0, MAX_HELPERS - 1)) {
                return FULL;
            }
            helpers[helperCount].begin(kind, degree, price);
            helperCount++;
            return helperCount - 1;
        }

        /** Does an access, and tells whether it was a miss, an old hit, or a hit of a new line. */
        private int perform(int program, int line) {
            for (int i = 0; i < helperCount; i++) {
                helpers[i].workOneHour(trial);
            }
            int outcome = serve(line);
            int ahead = 0;
            for (int i = 0; i < helperCount; i++) {
                helpers[i].learn(program, line, outcome);
                ahead += fetchWishes(i);
            }
            writeLog(program, line, outcome, ahead);
            accesses++;
            fetchedAhead += ahead;
            if (outcome != MISS) {
                hits++;
            }
            if (outcome == NEW_HIT) {
                newHits++;
            }
            return outcome;
        }

        private int performWalk(int program, int line, int stride, int count) {
            int found = 0;
            for (int i = 0; i < count; i++) {
                if (perform(program, line + i * stride) != MISS) {
                    found++;
                }
            }
            return found;
        }

        private int serve(int line) {
            Rows set = setOf(line);
            int place = set.find(line);
            if (place < 0) {
                punishThrower(line);
                fetch(line, NONE);
                return MISS;
            }
            boolean wasNew = set.get(place, SET_NEW) == 1;
            Helper fetcher = helperAt(set.get(place, SET_FETCHER));
            set.put(place, SET_NEW, 0);
            set.touch(place);
            if (wasNew && fetcher != null) {
                fetcher.lineWasUsed();
            }
            return wasNew ? NEW_HIT : OLD_HIT;
        }

        private void punishThrower(int line) {
            Helper thrower = helperAt(thrown.get(thrown.find(line), THROWN_BY));
            if (thrower != null) {
                thrower.harms++;
                thrower.sentence(HARM_HOURS);
            }
        }

        private int fetchWishes(int number) {
            Helper fetcher = helpers[number];
            int ahead = 0;
            for (int i = 0; i < fetcher.wishCount; i++) {
                int wished = fetcher.wishes[i];
                if (setOf(wished).find(wished) < 0) {
                    fetch(wished, number);
                    ahead++;
                }
            }
            fetcher.fetched += ahead;
            return ahead;
        }

        /** Fetches a line that is not in the cache for a helper, or for a program (NONE). */
        private void fetch(int line, int fetcher) {
            // Ahead of the throwing out, which could push another line out of the thrown-out ones otherwise.
            thrown.remove(thrown.find(line));
            Rows set = setOf(line);
            if (set.size >= wayCount) {
                throwOldest(set, fetcher);
            }
            int row = set.open(wayCount);
            set.put(row, SET_LINE, line);
            set.put(row, SET_FETCHER, fetcher);
            set.put(row, SET_NEW, fetcher == NONE ? 0 : 1);
        }

        private void throwOldest(Rows set, int thrower) {
            int line = set.get(0, SET_LINE);
            Helper fetcher = helperAt(set.get(0, SET_FETCHER));
            boolean wasNew = set.get(0, SET_NEW) == 1;
            set.remove(0);
            int row = thrown.open(MAX_THROWN);
            thrown.put(row, THROWN_LINE, line);
            thrown.put(row, THROWN_BY, thrower);
            thrownTotal++;
            if (wasNew && fetcher != null) {
                fetcher.vain++;
                fetcher.sentence(fetcher.price);
            }
        }

        /** Throws all lines out as a program would, and tells how many there were. */
        private int throwAllOut() {
            int lines = 0;
            for (int i = 0; i < MAX_SETS; i++) {
                int inThisSet = sets[i].size;
                for (int k = 0; k < inThisSet; k++) {
                    throwOldest(sets[i], NONE);
                }
                lines += inThisSet;
            }
            return lines;
        }

        private void writeLog(int program, int line, int outcome, int ahead) {
            int row = log.open(MAX_LOG);
            log.put(row, LOG_PROGRAM, program);
            log.put(row, LOG_LINE, line);
            log.put(row, LOG_OUTCOME, outcome);
            log.put(row, LOG_AHEAD, ahead);
            log.put(row, LOG_NUMBER, accesses);
        }

        private int linesInCache() {
            int lines = 0;
            for (int i = 0; i < MAX_SETS; i++) {
                lines += sets[i].size;
            }
            return lines;
        }

        /** The new lines in the cache that this helper fetched. */
        private int newLinesOf(int helper) {
            int lines = 0;
            for (int i = 0; i < MAX_SETS; i++) {
                for (int row = 0; row < sets[i].size; row++) {
                    if (sets[i].get(row, SET_NEW) == 1 && sets[i].get(row, SET_FETCHER) == helper) {
                        lines++;
                    }
                }
            }
            return lines;
        }

        private int newLines() {
            int lines = 0;
            for (int i = 0; i < helperCount; i++) {
                lines += newLinesOf(i);
            }
            return lines;
        }

        private int allHours() {
            int hours = 0;
            for (int i = 0; i < helperCount; i++) {
                hours += helpers[i].hours;
            }
            return hours;
        }

        private int programsInLog() {
            int seen = 0;
            for (int row = 0; row < log.size; row++) {
                seen |= 1 << log.get(row, LOG_PROGRAM);
            }
            return Integer.bitCount(seen);
        }
    }

    /** The text, read as a trace of accesses. */
    private static final class Trace {
        // What may stand at a place of the text.
        private static final int LETTER = 0;
        private static final int FIRST_DIGIT = 1;
        private static final int DIGIT_OR_COMMA = 2;
        private static final int COMMA = 3;
        private static final int NOTHING = 4;
        private static final int MAX_DIGITS = 4;

        private final char[] signs;
        private int length;

        private Trace() {
            signs = new char[MAX_TEXT];
            length = 0;
        }

        private boolean append(char sign) {
            if (isOutside(length, 0, MAX_TEXT - 1)) {
                return false;
            }
            signs[length] = sign;
            length++;
            return true;
        }

        /** The place of the fault of the text, or NONE if it is a trace. */
        private int fault() {
            int due = LETTER;
            int digits = 0;
            for (int i = 0; i < length; i++) {
                digits = isDigit(signs[i]) ? digits + 1 : 0;
                due = dueBehind(due, signs[i], digits);
                if (due == NOTHING) {
                    return i;
                }
            }
            return due == LETTER || due == FIRST_DIGIT ? length : NONE;
        }

        /** What is due behind this sign, which is the given one of its line's digits; NOTHING if it is a fault. */
        private static int dueBehind(int due, char sign, int digits) {
            switch (due) {
                case LETTER:
                    return isOutside(sign, 'a', 'a' + MAX_PROGRAM) ? NOTHING : FIRST_DIGIT;
                case FIRST_DIGIT:
                    if (!isDigit(sign)) {
                        return NOTHING;
                    }
                    return sign == '0' ? COMMA : DIGIT_OR_COMMA;
                case DIGIT_OR_COMMA:
                    if (isDigit(sign)) {
                        return digits < MAX_DIGITS ? DIGIT_OR_COMMA : COMMA;
                    }
                    return sign == ',' ? LETTER : NOTHING;
                default:
                    return sign == ',' ? LETTER : NOTHING;
            }
        }

        private static boolean isDigit(char sign) {
            return sign >= '0' && sign <= '9';
        }

        /** Does the accesses of a text without a fault, and tells how many hits there were. */
        private int performOn(State state) {
            int found = 0;
            int program = 0;
            int line = 0;
            for (int i = 0; i <= length; i++) {
                char sign = i < length ? signs[i] : ',';
                if (isDigit(sign)) {
                    line = line * 10 + (sign - '0');
                } else if (sign == ',') {
                    if (state.perform(program, line) != MISS) {
                        found++;
                    }
                    line = 0;
                } else {
                    program = sign - 'a';
                }
            }
            return found;
        }
    }
}
