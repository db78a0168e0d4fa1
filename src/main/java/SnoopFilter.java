/**
 * Cores with small caches over one memory, each kept from needless snoops by a filter that forgets.
 *
 * <p>The rules are those of ../shared/DOC.md. Every row is made in the constructor and used again, so that
 * no call after it makes an object.
 */
public final class SnoopFilter {
    public static final int UNKNOWN = -1;
    public static final int BAD_VALUE = -2;
    public static final int FULL = -3;
    public static final int NOT_POSSIBLE = -4;
    public static final int NONE = -5;

    private static final int CORES = 4;
    private static final int LINES = 256;
    private static final int PLACES = 8;
    private static final int COUNTERS = 24;
    private static final int REGIONS = 16;
    private static final int REGION_LINES = 16;
    private static final int HIGHEST_VALUE = 9999;
    private static final int HIGHEST_LIMIT = 9;
    private static final int TEXT_ROOM = 80;
    private static final int HISTORY_ROOM = 4;

    /** The shortest command has two characters, and each but the last has a ";" behind it. */
    private static final int COMMAND_ROOM = (TEXT_ROOM + 1) / 3;

    private static final int FIRST_FAULT = -100;
    private static final int NO_LINE = -1;

    // The tallies of a core stand in the order in which core() tells them, from its number 5 on.
    private static final int HITS = 0;
    private static final int MISSES = 1;
    private static final int CAME = 2;
    private static final int IN_VAIN = 3;
    private static final int KEPT_OFF = 4;
    private static final int FORGOT = 5;
    private static final int TALLIES = 6;
    private static final int FIRST_TALLY_TOLD = 5;

    private final Machine now;
    /** Where a program or a cost is tried, so that what fails leaves the state as it was. */
    private final Machine trial;
    private final Machine snapshot;
    private final History history;
    private final Program program;
    private boolean hasSnapshot;
    private boolean hasStop;
    private int stopNumber;
    private int stopError;

    public SnoopFilter() {
        now = new Machine();
        trial = new Machine();
        snapshot = new Machine();
        history = new History();
        program = new Program();
    }

    // ---- reading, writing

    public int read(int core, int line) {
        if (!isCore(core) || !isLine(line)) {
            return UNKNOWN;
        }
        history.record(now);
        return now.readLine(core, line);
    }

    public int write(int core, int line, int value) {
        if (!isCore(core) || !isLine(line)) {
            return UNKNOWN;
        }
        if (!isWithin(value, 0, HIGHEST_VALUE)) {
            return BAD_VALUE;
        }
        history.record(now);
        return now.writeLine(core, line, value);
    }

    public int drop(int core, int line) {
        if (!isCore(core) || !isLine(line)) {
            return UNKNOWN;
        }
        if (!now.cores[core].holds(line)) {
            return NOT_POSSIBLE;
        }
        history.record(now);
        return now.dropLine(core, line);
    }

    public int forget(int core) {
        if (!isCore(core)) {
            return UNKNOWN;
        }
        if (now.cores[core].hasNothingToForget()) {
            return NONE;
        }
        history.record(now);
        return now.forgetOnPurpose(core);
    }

    public int set(int which, int value) {
        if (!isWithin(which, 0, 1)) {
            return UNKNOWN;
        }
        if (!isWithin(value, 1, which == 0 ? HIGHEST_LIMIT : COUNTERS)) {
            return BAD_VALUE;
        }
        int previous = which == 0 ? now.limit : now.fullFrom;
        if (previous == value) {
            return NONE;
        }
        history.record(now);
        if (which == 0) {
            now.limit = value;
        } else {
            now.fullFrom = value;
        }
        return previous;
    }

    // ---- texts

    public int type(char character) {
        return program.append(character) ? program.length : FULL;
    }

    public int clearText() {
        int before = program.length;
        program.length = 0;
        return before;
    }

    public int perform() {
        int fault = program.findFault();
        if (fault >= 0) {
            return FIRST_FAULT - fault;
        }
        trial.copyFrom(now);
        int sum = 0;
        for (int number = 0; number < program.commands; number++) {
            int answer = program.runCommand(number, trial);
            if (answer < 0 && answer != NONE) {
                noteStop(number, answer);
                return NOT_POSSIBLE;
            }
            if (program.isReading(number)) {
                sum += answer;
            }
        }
        history.record(now);
        now.copyFrom(trial);
        return sum;
    }

    public int stopped(int what) {
        if (!isWithin(what, 0, 1)) {
            return BAD_VALUE;
        }
        if (!hasStop) {
            return NONE;
        }
        return what == 0 ? stopNumber : stopError;
    }

    // ---- history

    public int undo() {
        if (history.size == 0) {
            return NONE;
        }
        history.takeLatest(now);
        return history.size;
    }

    public int keep() {
        snapshot.copyFrom(now);
        hasSnapshot = true;
        return now.heldByAll();
    }

    public int restore() {
        if (!hasSnapshot) {
            return NONE;
        }
        history.record(now);
        now.copyFrom(snapshot);
        return now.heldByAll();
    }

    // ---- what is told

    public int core(int core, int what) {
        if (!isCore(core)) {
            return UNKNOWN;
        }
        if (!isWithin(what, 0, FIRST_TALLY_TOLD + TALLIES - 1)) {
            return BAD_VALUE;
        }
        Core told = now.cores[core];
        switch (what) {
            case 0:
                return told.heldLines();
            case 1:
                return told.dirtyLines();
            case 2:
                return told.filter.countersAboveZero();
            case 3:
                return told.filter.stuckCounters();
            case 4:
                return told.filter.bitsThatAreOne();
            default:
                return told.tallies[what - FIRST_TALLY_TOLD];
        }
    }

    public int held(int core, int place, int what) {
        if (!isCore(core)) {
            return UNKNOWN;
        }
        if (!isWithin(place, 0, PLACES - 1) || !isWithin(what, 0, 2)) {
            return BAD_VALUE;
        }
        Core told = now.cores[core];
        if (told.lines[place] == NO_LINE) {
            return NONE;
        }
        switch (what) {
            case 0:
                return told.lines[place];
            case 1:
                return told.values[place];
            default:
                return told.dirty[place] ? 1 : 0;
        }
    }

    public int counter(int core, int counter) {
        if (!isCore(core) || !isWithin(counter, 0, COUNTERS - 1)) {
            return UNKNOWN;
        }
        return now.cores[core].filter.counters[counter];
    }

    public int bit(int core, int region) {
        if (!isCore(core) || !isWithin(region, 0, REGIONS - 1)) {
            return UNKNOWN;
        }
        return now.cores[core].filter.bits[region] ? 1 : 0;
    }

    public int line(int line, int what) {
        if (!isLine(line)) {
            return UNKNOWN;
        }
        switch (what) {
            case 0:
                return now.memory[line];
            case 1:
                return now.valueForReader(line);
            case 2:
                return now.holdersOf(line);
            case 3:
                return now.coresThatMayHave(line);
            case 4:
                return Filter.firstCounter(line);
            case 5:
                return Filter.secondCounter(line);
            default:
                return BAD_VALUE;
        }
    }

    public int reason(int core, int line) {
        if (!isCore(core) || !isLine(line)) {
            return UNKNOWN;
        }
        Core asked = now.cores[core];
        if (asked.holds(line)) {
            return 0;
        }
        if (asked.filter.mayHave(line)) {
            return 1;
        }
        return asked.filter.hasBitOf(line) ? 3 : 2;
    }

    public int cost(int core, int line, boolean writes, int what) {
        if (!isCore(core) || !isLine(line)) {
            return UNKNOWN;
        }
        if (!isWithin(what, 0, 3)) {
            return BAD_VALUE;
        }
        trial.copyFrom(now);
        if (writes) {
            trial.writeLine(core, line, 0);
        } else {
            trial.readLine(core, line);
        }
        switch (what) {
            case 0:
                return trial.sumOf(CAME) - now.sumOf(CAME);
            case 1:
                return trial.sumOf(IN_VAIN) - now.sumOf(IN_VAIN);
            case 2:
                return trial.writtenBack - now.writtenBack;
            default:
                return trial.sumOf(FORGOT) - now.sumOf(FORGOT);
        }
    }

    public int vain(int core) {
        if (!isCore(core)) {
            return UNKNOWN;
        }
        Core asked = now.cores[core];
        int found = 0;
        for (int line = 0; line < LINES; line++) {
            if (asked.filter.mayHave(line) && !asked.holds(line)) {
                found++;
            }
        }
        return found;
    }

    public int worst() {
        int found = NONE;
        int most = 0;
        for (int core = 0; core < CORES; core++) {
            int inVain = now.cores[core].tallies[IN_VAIN];
            if (inVain > most) {
                most = inVain;
                found = core;
            }
        }
        return found;
    }

    public int count(int what) {
        switch (what) {
            case 0:
                return now.heldByAll();
            case 1:
                return now.dirtyOfAll();
            case 2:
                return now.sumOf(CAME);
            case 3:
                return now.sumOf(IN_VAIN);
            case 4:
                return now.sumOf(KEPT_OFF);
            case 5:
                return now.writtenBack;
            case 6:
                return now.sumOf(FORGOT);
            case 7:
                return now.sumOf(HITS);
            case 8:
                return now.sumOf(MISSES);
            case 9:
                return now.writings;
            case 10:
                return now.limit;
            case 11:
                return now.fullFrom;
            case 12:
                return history.size;
            case 13:
                return program.length;
            default:
                return BAD_VALUE;
        }
    }

    // ---- what the calls share

    private static boolean isWithin(int number, int lowest, int highest) {
        return number >= lowest && number <= highest;
    }

    private static boolean isCore(int core) {
        return isWithin(core, 0, CORES - 1);
    }

    private static boolean isLine(int line) {
        return isWithin(line, 0, LINES - 1);
    }

    private static int howManyAreTrue(boolean[] row) {
        int found = 0;
        for (boolean one : row) {
            if (one) {
                found++;
            }
        }
        return found;
    }

    private void noteStop(int number, int error) {
        hasStop = true;
        stopNumber = number;
        stopError = error;
    }

    /** What a core remembers of its lines. Lines given to it are 0 to 255. */
    private static final class Filter {
        final int[] counters = new int[COUNTERS];
        final boolean[] stuck = new boolean[COUNTERS];
        final boolean[] bits = new boolean[REGIONS];

        static int firstCounter(int line) {
            return line % COUNTERS;
        }

        static int secondCounter(int line) {
            return (7 * line + 5) % COUNTERS;
        }

        void add(int line, int limit) {
            bits[line / REGION_LINES] = true;
            raise(firstCounter(line), limit);
            raise(secondCounter(line), limit);
        }

        private void raise(int counter, int limit) {
            // A stuck counter stays even if the limit has been set higher since.
            if (stuck[counter]) {
                return;
            }
            if (counters[counter] >= limit) {
                stuck[counter] = true;
            } else {
                counters[counter]++;
            }
        }

        void remove(int line) {
            lower(firstCounter(line));
            lower(secondCounter(line));
        }

        private void lower(int counter) {
            if (!stuck[counter] && counters[counter] > 0) {
                counters[counter]--;
            }
        }

        boolean hasBitOf(int line) {
            return bits[line / REGION_LINES];
        }

        boolean mayHave(int line) {
            return hasBitOf(line) && counters[firstCounter(line)] > 0 && counters[secondCounter(line)] > 0;
        }

        int countersAboveZero() {
            int found = 0;
            for (int counter = 0; counter < COUNTERS; counter++) {
                if (counters[counter] > 0) {
                    found++;
                }
            }
            return found;
        }

        int stuckCounters() {
            return howManyAreTrue(stuck);
        }

        int bitsThatAreOne() {
            return howManyAreTrue(bits);
        }

        void wipe() {
            for (int counter = 0; counter < COUNTERS; counter++) {
                counters[counter] = 0;
                stuck[counter] = false;
            }
            for (int region = 0; region < REGIONS; region++) {
                bits[region] = false;
            }
        }

        void copyFrom(Filter other) {
            System.arraycopy(other.counters, 0, counters, 0, COUNTERS);
            System.arraycopy(other.stuck, 0, stuck, 0, COUNTERS);
            System.arraycopy(other.bits, 0, bits, 0, REGIONS);
        }
    }

    /** A cache with its filter and tallies. A place holds NO_LINE, or a line from 0 to 255. */
    private static final class Core {
        final int[] lines = new int[PLACES];
        final int[] values = new int[PLACES];
        final boolean[] dirty = new boolean[PLACES];
        final int[] tallies = new int[TALLIES];
        final Filter filter = new Filter();

        Core() {
            for (int place = 0; place < PLACES; place++) {
                lines[place] = NO_LINE;
            }
        }

        static int placeOf(int line) {
            return line % PLACES;
        }

        boolean holds(int line) {
            return lines[placeOf(line)] == line;
        }

        boolean holdsDirty(int line) {
            return holds(line) && dirty[placeOf(line)];
        }

        void fill(int line, int value, boolean isDirty) {
            int place = placeOf(line);
            lines[place] = line;
            values[place] = value;
            dirty[place] = isDirty;
        }

        void empty(int place) {
            lines[place] = NO_LINE;
            dirty[place] = false;
        }

        /** Takes the line out of the cache and out of the counters; whoever calls has saved its value. */
        void release(int line) {
            filter.remove(line);
            empty(placeOf(line));
        }

        /** Lets a snoop through or keeps it off, and keeps the tallies of it; answers whether it came. */
        boolean isReachedBySnoop(int line) {
            if (!filter.mayHave(line)) {
                tallies[KEPT_OFF]++;
                return false;
            }
            tallies[CAME]++;
            if (!holds(line)) {
                tallies[IN_VAIN]++;
            }
            return true;
        }

        int heldLines() {
            int found = 0;
            for (int place = 0; place < PLACES; place++) {
                if (lines[place] != NO_LINE) {
                    found++;
                }
            }
            return found;
        }

        int dirtyLines() {
            return howManyAreTrue(dirty);
        }

        boolean hasNothingToForget() {
            return heldLines() == 0 && filter.countersAboveZero() == 0 && filter.bitsThatAreOne() == 0;
        }

        void copyFrom(Core other) {
            System.arraycopy(other.lines, 0, lines, 0, PLACES);
            System.arraycopy(other.values, 0, values, 0, PLACES);
            System.arraycopy(other.dirty, 0, dirty, 0, PLACES);
            System.arraycopy(other.tallies, 0, tallies, 0, TALLIES);
            filter.copyFrom(other.filter);
        }
    }

    /** One whole state: all that undo() and restore() bring back. Cores and lines given to it are in range. */
    private static final class Machine {
        final int[] memory = new int[LINES];
        final Core[] cores = new Core[CORES];
        int limit = 3;
        int fullFrom = 20;
        int writtenBack;
        int writings;

        Machine() {
            for (int core = 0; core < CORES; core++) {
                cores[core] = new Core();
            }
        }

        int readLine(int reader, int line) {
            Core own = cores[reader];
            int place = Core.placeOf(line);
            if (own.holds(line)) {
                own.tallies[HITS]++;
                return own.values[place];
            }
            own.tallies[MISSES]++;
            for (int other = 0; other < CORES; other++) {
                Core asked = cores[other];
                if (other != reader && asked.isReachedBySnoop(line) && asked.holds(line)) {
                    writeBack(asked, place);
                }
            }
            int value = memory[line];
            vacate(own, place);
            beginToHold(own, line, value, false);
            return value;
        }

        int writeLine(int writer, int line, int value) {
            Core own = cores[writer];
            writings++;
            int snooped = own.holdsDirty(line) ? 0 : takeFromOthers(writer, line);
            if (own.holds(line)) {
                own.fill(line, value, true);
            } else {
                vacate(own, Core.placeOf(line));
                beginToHold(own, line, value, true);
            }
            return snooped;
        }

        /** Others lose the line unsaved, as the value to come replaces theirs; answers how many were snooped. */
        private int takeFromOthers(int writer, int line) {
            int snooped = 0;
            for (int other = 0; other < CORES; other++) {
                Core asked = cores[other];
                if (other != writer && asked.isReachedBySnoop(line)) {
                    snooped++;
                    if (asked.holds(line)) {
                        asked.release(line);
                    }
                }
            }
            return snooped;
        }

        int dropLine(int core, int line) {
            Core own = cores[core];
            if (!own.holds(line)) {
                return NOT_POSSIBLE;
            }
            int wasDirty = own.holdsDirty(line) ? 1 : 0;
            vacate(own, Core.placeOf(line));
            return wasDirty;
        }

        int forgetOnPurpose(int core) {
            Core own = cores[core];
            return own.hasNothingToForget() ? NONE : forgetAllBut(own, NO_LINE);
        }

        private void beginToHold(Core own, int line, int value, boolean isDirty) {
            own.fill(line, value, isDirty);
            own.filter.add(line, limit);
            if (own.filter.countersAboveZero() >= fullFrom) {
                forgetAllBut(own, line);
                // Not asked again here: a line's own two counters can be enough to fill the filter.
                own.filter.add(line, limit);
            }
        }

        /** The kept line stays in the cache alone: the filter knows nothing of it until it is added anew. */
        private int forgetAllBut(Core own, int keptLine) {
            int dropped = 0;
            for (int place = 0; place < PLACES; place++) {
                int line = own.lines[place];
                if (line != NO_LINE && line != keptLine) {
                    writeBack(own, place);
                    own.empty(place);
                    dropped++;
                }
            }
            own.filter.wipe();
            own.tallies[FORGOT]++;
            return dropped;
        }

        private void vacate(Core own, int place) {
            int line = own.lines[place];
            if (line != NO_LINE) {
                writeBack(own, place);
                own.release(line);
            }
        }

        private void writeBack(Core own, int place) {
            int line = own.lines[place];
            if (line != NO_LINE && own.dirty[place]) {
                memory[line] = own.values[place];
                own.dirty[place] = false;
                writtenBack++;
            }
        }

        int valueForReader(int line) {
            for (int core = 0; core < CORES; core++) {
                if (cores[core].holds(line)) {
                    // All that hold a line hold the same value: a dirty one is held by one core alone.
                    return cores[core].values[Core.placeOf(line)];
                }
            }
            return memory[line];
        }

        int holdersOf(int line) {
            int holders = 0;
            for (int core = 0; core < CORES; core++) {
                if (cores[core].holds(line)) {
                    holders |= 1 << core;
                }
            }
            return holders;
        }

        int coresThatMayHave(int line) {
            int found = 0;
            for (int core = 0; core < CORES; core++) {
                if (cores[core].filter.mayHave(line)) {
                    found |= 1 << core;
                }
            }
            return found;
        }

        int sumOf(int tally) {
            int sum = 0;
            for (int core = 0; core < CORES; core++) {
                sum += cores[core].tallies[tally];
            }
            return sum;
        }

        int heldByAll() {
            int sum = 0;
            for (int core = 0; core < CORES; core++) {
                sum += cores[core].heldLines();
            }
            return sum;
        }

        int dirtyOfAll() {
            int sum = 0;
            for (int core = 0; core < CORES; core++) {
                sum += cores[core].dirtyLines();
            }
            return sum;
        }

        void copyFrom(Machine other) {
            System.arraycopy(other.memory, 0, memory, 0, LINES);
            for (int core = 0; core < CORES; core++) {
                cores[core].copyFrom(other.cores[core]);
            }
            limit = other.limit;
            fullFrom = other.fullFrom;
            writtenBack = other.writtenBack;
            writings = other.writings;
        }
    }

    /** The latest states, in a ring, so that the oldest one makes room for a new one. */
    private static final class History {
        private final Machine[] states = new Machine[HISTORY_ROOM];
        private int oldest;
        int size;

        History() {
            for (int slot = 0; slot < HISTORY_ROOM; slot++) {
                states[slot] = new Machine();
            }
        }

        void record(Machine state) {
            states[(oldest + size) % HISTORY_ROOM].copyFrom(state);
            if (size < HISTORY_ROOM) {
                size++;
            } else {
                oldest = (oldest + 1) % HISTORY_ROOM;
            }
        }

        void takeLatest(Machine target) {
            if (size > 0) {
                size--;
                target.copyFrom(states[(oldest + size) % HISTORY_ROOM]);
            }
        }
    }

    /** The text, and the commands that were found in it when it was last looked through. */
    private static final class Program {
        private final char[] text = new char[TEXT_ROOM];
        private final char[] kinds = new char[COMMAND_ROOM];
        private final int[] coresOf = new int[COMMAND_ROOM];
        private final int[] linesOf = new int[COMMAND_ROOM];
        private final int[] valuesOf = new int[COMMAND_ROOM];
        int length;
        int commands;
        /** The index of the next character; where a step of the search fails, it is that of the fault. */
        private int at;

        boolean append(char character) {
            if (length >= TEXT_ROOM) {
                return false;
            }
            text[length] = character;
            length++;
            return true;
        }

        /** Answers the index of the fault, or -1 and leaves the commands for runCommand(). */
        int findFault() {
            at = 0;
            commands = 0;
            while (commands < COMMAND_ROOM) {
                if (!takesCommand(commands)) {
                    return at;
                }
                commands++;
                if (at == length) {
                    return -1;
                }
                if (!takes(';')) {
                    return at;
                }
            }
            return at;
        }

        private boolean takesCommand(int number) {
            char kind = at < length ? text[at] : ';';
            if (kind != 'r' && kind != 'w' && kind != 'd' && kind != 'f') {
                return false;
            }
            at++;
            kinds[number] = kind;
            if (!isDigitUpTo(CORES - 1)) {
                return false;
            }
            coresOf[number] = takeNumber(CORES - 1);
            return kind == 'f' || takesLineAndValue(number);
        }

        private boolean takesLineAndValue(int number) {
            if (!takes('.') || !isDigitUpTo(9)) {
                return false;
            }
            linesOf[number] = takeNumber(LINES - 1);
            if (kinds[number] != 'w') {
                return true;
            }
            if (!takes('=') || !isDigitUpTo(9)) {
                return false;
            }
            valuesOf[number] = takeNumber(HIGHEST_VALUE);
            return true;
        }

        private boolean takes(char wanted) {
            if (at >= length || text[at] != wanted) {
                return false;
            }
            at++;
            return true;
        }

        private boolean isDigitUpTo(int highest) {
            return at < length && text[at] >= '0' && text[at] - '0' <= highest;
        }

        /**
         * Takes digits as long as the number stays in its range and has no zero in front. A digit that is
         * left is the fault, as none of the signs that may follow a number is one.
         */
        private int takeNumber(int highest) {
            int number = 0;
            int first = at;
            while (at < length && isDigitUpTo(9) && (number > 0 || at == first)) {
                int longer = 10 * number + text[at] - '0';
                if (longer > highest) {
                    break;
                }
                number = longer;
                at++;
            }
            return number;
        }

        boolean isReading(int number) {
            return kinds[number] == 'r';
        }

        int runCommand(int number, Machine machine) {
            int core = coresOf[number];
            int line = linesOf[number];
            char kind = kinds[number];
            if (kind == 'r') {
                return machine.readLine(core, line);
            }
            if (kind == 'w') {
                return machine.writeLine(core, line, valuesOf[number]);
            }
            return kind == 'd' ? machine.dropLine(core, line) : machine.forgetOnPurpose(core);
        }
    }
}
