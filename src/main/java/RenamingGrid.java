import java.util.Arrays;

/**
 * Simulates wait-free renaming with a grid of splitters, and explores all
 * interleavings of the steps that remain.
 */
public final class RenamingGrid {
    public static final int INVALID_ARGUMENT = -1;
    public static final int ILLEGAL_STATE = -2;
    public static final int CAPACITY_EXCEEDED = -3;
    public static final int NONE = -9;

    private static final int RUNNING = 0;
    private static final int NAMED = 1;
    private static final int OUT = 2;
    private static final int CRASHED = 3;

    private static final int STAYED = 0;
    private static final int BECAME_NAMED = 1;
    private static final int MOVED_RIGHT = 2;
    private static final int MOVED_DOWN = 3;
    private static final int BECAME_OUT = 4;

    private static final int CLOSED = 1;

    /** A step down leads to a name that is greater by one than a step to the right. */
    private static final int RIGHT = 0;
    private static final int DOWN = 1;

    private static final int LEAST_SIZE = 2;
    private static final int GREATEST_SIZE = 4;
    private static final int MOST_PROCESSES = 3;
    private static final int CORRECT = 0;
    private static final int SKIPS_DOOR = 1;
    private static final int CLOSES_LATE = 2;

    /** A way leads over at most four splitters, with at most four steps at each of them. */
    private static final int MOST_STEPS = 16;
    private static final int MOST_SAVED = 8;
    private static final int SLOTS = 2;
    private static final int ERROR_BASE = -10;

    private final State present;
    private final State scratch;
    private final State[] saved;
    private int savedCount;
    /** A slot is null while it is empty. */
    private final State[] slots;
    private final Schedule schedule;
    /** Made by the first explore(), because most of an object's room is in it. */
    private Exploration workspace;
    /** The exploration of the present state, or null if nothing can be told of one. */
    private Exploration told;

    public RenamingGrid() {
        present = new State();
        present.begin(3, 2, CORRECT);
        scratch = new State();
        saved = new State[MOST_SAVED];
        for (int i = 0; i < saved.length; i++) {
            saved[i] = new State();
        }
        slots = new State[SLOTS];
        schedule = new Schedule();
    }

    // ---- configuration

    public int configure(int size, int processes, int program) {
        boolean valid = size >= LEAST_SIZE && size <= GREATEST_SIZE
                && processes >= 1 && processes <= MOST_PROCESSES
                && program >= CORRECT && program <= CLOSES_LATE;
        if (!valid) {
            return INVALID_ARGUMENT;
        }
        prepareChange();
        present.begin(size, processes, program);
        return present.names();
    }

    public int nameCount() {
        return present.names();
    }

    public int processCount() {
        return present.processes;
    }

    // ---- steps

    public int step(int process) {
        if (!present.hasProcess(process)) {
            return INVALID_ARGUMENT;
        }
        if (!present.isRunning(process)) {
            return ILLEGAL_STATE;
        }
        prepareChange();
        return present.advance(process);
    }

    public int crash(int process) {
        if (!present.hasProcess(process)) {
            return INVALID_ARGUMENT;
        }
        if (!present.isRunning(process)) {
            return ILLEGAL_STATE;
        }
        prepareChange();
        present.markCrashed(process);
        return present.countRunning();
    }

    public int append(int character) {
        if (character < 0 || character > 255) {
            return INVALID_ARGUMENT;
        }
        if (schedule.isFull()) {
            return CAPACITY_EXCEEDED;
        }
        return schedule.add((char) character);
    }

    public int clearText() {
        return schedule.clear();
    }

    public int runText() {
        int error = schedule.read(present.processes);
        if (error != Schedule.NO_ERROR) {
            return ERROR_BASE - error;
        }
        prepareChange();
        int made = schedule.executeOn(present);
        schedule.clear();
        return made;
    }

    // ---- processes

    public int status(int process) {
        if (!present.hasProcess(process)) {
            return INVALID_ARGUMENT;
        }
        return Configuration.statusIn(present.configuration, process);
    }

    public int splitterOf(int process) {
        if (!present.hasProcess(process)) {
            return INVALID_ARGUMENT;
        }
        if (Configuration.statusIn(present.configuration, process) == OUT) {
            return NONE;
        }
        return Configuration.splitterIn(present.configuration, process);
    }

    public int phaseOf(int process) {
        if (!present.hasProcess(process)) {
            return INVALID_ARGUMENT;
        }
        if (Configuration.statusIn(present.configuration, process) == OUT) {
            return NONE;
        }
        return Configuration.phaseIn(present.configuration, process);
    }

    public int stepsOf(int process) {
        if (!present.hasProcess(process)) {
            return INVALID_ARGUMENT;
        }
        return Counts.countIn(present.stepsMade, process);
    }

    public int soloSteps(int process) {
        if (!present.hasProcess(process)) {
            return INVALID_ARGUMENT;
        }
        scratch.copyFrom(present);
        return scratch.advanceUpTo(process, MOST_STEPS);
    }

    public int soloName(int process) {
        if (!present.hasProcess(process)) {
            return INVALID_ARGUMENT;
        }
        scratch.copyFrom(present);
        scratch.advanceUpTo(process, MOST_STEPS);
        return Configuration.nameIn(scratch.configuration, process);
    }

    // ---- splitters

    public int owner(int splitter) {
        if (!present.hasSplitter(splitter)) {
            return INVALID_ARGUMENT;
        }
        return Configuration.ownerIn(present.configuration, splitter);
    }

    public int door(int splitter) {
        if (!present.hasSplitter(splitter)) {
            return INVALID_ARGUMENT;
        }
        return Configuration.doorIn(present.configuration, splitter);
    }

    public int entered(int splitter) {
        if (!present.hasSplitter(splitter)) {
            return INVALID_ARGUMENT;
        }
        return Counts.countIn(present.entries, splitter);
    }

    public int left(int splitter, int direction) {
        if (!present.hasSplitter(splitter)) {
            return INVALID_ARGUMENT;
        }
        if (direction == RIGHT) {
            return Counts.countIn(present.rightExits, splitter);
        }
        if (direction == DOWN) {
            return Counts.countIn(present.downExits, splitter);
        }
        return INVALID_ARGUMENT;
    }

    // ---- exploration

    public int explore() {
        if (told != null) {
            // Nothing has changed since: the same would be found again.
            return told.count;
        }
        if (workspace == null) {
            workspace = new Exploration();
        }
        if (!workspace.findAllFrom(present)) {
            return CAPACITY_EXCEEDED;
        }
        told = workspace;
        return told.count;
    }

    public int finalCount() {
        return told == null ? ILLEGAL_STATE : told.countFinals();
    }

    public int violationCount() {
        return told == null ? ILLEGAL_STATE : told.countViolations();
    }

    public int violationStep(int index) {
        if (index < 0) {
            return INVALID_ARGUMENT;
        }
        return told == null ? ILLEGAL_STATE : told.moverTowardsViolation(index);
    }

    public int greatestDepth() {
        return told == null ? ILLEGAL_STATE : told.depthOf(told.count - 1);
    }

    public int greatestName() {
        return told == null ? ILLEGAL_STATE : told.highestName();
    }

    public int outcomeCount() {
        return told == null ? ILLEGAL_STATE : told.countOutcomes();
    }

    public int finalsWith(int process, int name) {
        if (!present.hasProcess(process) || !present.hasSplitter(name)) {
            return INVALID_ARGUMENT;
        }
        return told == null ? ILLEGAL_STATE : told.countFinalsNamed(process, name);
    }

    // ---- undo and snapshots

    public int undo() {
        if (savedCount <= 0 || savedCount > saved.length) {
            return ILLEGAL_STATE;
        }
        savedCount--;
        present.copyFrom(saved[savedCount]);
        told = null;
        return savedCount;
    }

    public int save(int slot) {
        if (slot < 0 || slot >= slots.length) {
            return INVALID_ARGUMENT;
        }
        if (slots[slot] == null) {
            slots[slot] = new State();
        }
        slots[slot].copyFrom(present);
        return present.countRunning();
    }

    public int restore(int slot) {
        if (slot < 0 || slot >= slots.length) {
            return INVALID_ARGUMENT;
        }
        if (slots[slot] == null) {
            return ILLEGAL_STATE;
        }
        present.copyFrom(slots[slot]);
        savedCount = 0;
        told = null;
        return present.countRunning();
    }

    /** To be called when a change is sure to succeed, and before it is made. */
    private void prepareChange() {
        if (savedCount >= saved.length) {
            discardOldestSaved();
        }
        saved[savedCount].copyFrom(present);
        savedCount++;
        told = null;
    }

    /** The row of the discarded state goes to the end, to be used again. */
    private void discardOldestSaved() {
        State oldest = saved[0];
        for (int i = 1; i < saved.length; i++) {
            saved[i - 1] = saved[i];
        }
        saved[saved.length - 1] = oldest;
        savedCount = saved.length - 1;
    }

    /** Small counts, six bits each, in one long: a state is then copied without arrays. */
    private static final class Counts {
        private static final int BITS = 6;
        private static final int MASK = 63;

        static int countIn(long counts, int index) {
            return (int) (counts >>> (BITS * index)) & MASK;
        }

        static long withOneMore(long counts, int index) {
            return counts + (1L << (BITS * index));
        }
    }

    /**
     * Configurations, each packed into one long, so that an exploration can
     * keep and compare them as numbers. From bit 0 on there are 8 bits for each
     * process: status (2), phase (2), splitter (4); phase and splitter are 0 if
     * it is out. From bit 24 on there are 3 bits for each splitter: owner plus
     * 1, or 0 for none (2), and door (1). So 0 is the configuration at first.
     */
    private static final class Configuration {
        private static final int PROCESS_BITS = 8;
        private static final int PHASE_SHIFT = 2;
        private static final int PLACE_SHIFT = 4;
        private static final int REGISTERS_SHIFT = 24;
        private static final int SPLITTER_BITS = 3;
        private static final int DOOR_SHIFT = 2;

        static int statusIn(long configuration, int process) {
            return (int) (configuration >>> (PROCESS_BITS * process)) & 3;
        }

        static int phaseIn(long configuration, int process) {
            return (int) (configuration >>> (PROCESS_BITS * process + PHASE_SHIFT)) & 3;
        }

        static int splitterIn(long configuration, int process) {
            return (int) (configuration >>> (PROCESS_BITS * process + PLACE_SHIFT)) & 15;
        }

        static int nameIn(long configuration, int process) {
            return statusIn(configuration, process) == NAMED ? splitterIn(configuration, process) : NONE;
        }

        static int ownerIn(long configuration, int splitter) {
            int stored = (int) (configuration >>> ownerShift(splitter)) & 3;
            return stored == 0 ? NONE : stored - 1;
        }

        static int doorIn(long configuration, int splitter) {
            return (int) (configuration >>> (ownerShift(splitter) + DOOR_SHIFT)) & 1;
        }

        static long withStatus(long configuration, int process, int status) {
            int shift = PROCESS_BITS * process;
            return (configuration & ~(3L << shift)) | ((long) status << shift);
        }

        /** The configuration after a step of a running process. */
        static long afterStep(long configuration, int process, int size, int program) {
            int splitter = splitterIn(configuration, process);
            int phase = phaseIn(configuration, process);
            if (phase == 0) {
                long owned = withOwner(configuration, splitter, process);
                return withPhase(owned, process, program == SKIPS_DOOR ? 2 : 1);
            }
            if (phase == 1) {
                return doorIn(configuration, splitter) == CLOSED
                        ? moved(configuration, process, size, RIGHT)
                        : withPhase(configuration, process, 2);
            }
            boolean readsOwner = phase == (program == CLOSES_LATE ? 2 : 3);
            if (readsOwner && ownerIn(configuration, splitter) != process) {
                return moved(configuration, process, size, DOWN);
            }
            long next = readsOwner ? configuration : withDoorClosed(configuration, splitter);
            return phase == 2 ? withPhase(next, process, 3) : withStatus(next, process, NAMED);
        }

        private static long withPhase(long configuration, int process, int phase) {
            int shift = PROCESS_BITS * process + PHASE_SHIFT;
            return (configuration & ~(3L << shift)) | ((long) phase << shift);
        }

        private static long withOwner(long configuration, int splitter, int process) {
            int shift = ownerShift(splitter);
            return (configuration & ~(3L << shift)) | ((long) (process + 1) << shift);
        }

        private static long withDoorClosed(long configuration, int splitter) {
            return configuration | ((long) CLOSED << (ownerShift(splitter) + DOOR_SHIFT));
        }

        /** The process begins at the next splitter, or is out if the grid ends before it. */
        private static long moved(long configuration, int process, int size, int direction) {
            int shift = PROCESS_BITS * process;
            long others = configuration & ~(255L << shift);
            int splitter = splitterIn(configuration, process);
            int nextDiagonal = diagonalOf(splitter) + 1;
            if (nextDiagonal >= size) {
                return others | ((long) OUT << shift);
            }
            long next = splitter + nextDiagonal + direction;
            return others | (next << (shift + PLACE_SHIFT));
        }

        private static int ownerShift(int splitter) {
            return REGISTERS_SHIFT + SPLITTER_BITS * splitter;
        }

        /** Row plus column of a splitter, for the ten names that the greatest grid has. */
        private static int diagonalOf(int splitter) {
            if (splitter < 1) {
                return 0;
            }
            if (splitter < 3) {
                return 1;
            }
            return splitter < 6 ? 2 : 3;
        }
    }

    /** What undo() and restore() bring back. */
    private static final class State {
        private int size;
        private int processes;
        private int program;
        private long configuration;
        /** Counts of the steps of each process. */
        private long stepsMade;
        /** Counts of the processes that have come to each splitter, and gone from it. */
        private long entries;
        private long rightExits;
        private long downExits;

        void begin(int gridSize, int processNumber, int programNumber) {
            size = gridSize;
            processes = processNumber;
            program = programNumber;
            configuration = 0;
            stepsMade = 0;
            entries = 0;
            rightExits = 0;
            downExits = 0;
            for (int process = 0; process < processes; process++) {
                entries = Counts.withOneMore(entries, 0);
            }
        }

        void copyFrom(State other) {
            size = other.size;
            processes = other.processes;
            program = other.program;
            configuration = other.configuration;
            stepsMade = other.stepsMade;
            entries = other.entries;
            rightExits = other.rightExits;
            downExits = other.downExits;
        }

        int names() {
            return size * (size + 1) / 2;
        }

        boolean hasProcess(int process) {
            return process >= 0 && process < processes;
        }

        boolean hasSplitter(int splitter) {
            return splitter >= 0 && splitter < names();
        }

        boolean isRunning(int process) {
            return Configuration.statusIn(configuration, process) == RUNNING;
        }

        int countRunning() {
            int running = 0;
            for (int process = 0; process < processes; process++) {
                if (isRunning(process)) {
                    running++;
                }
            }
            return running;
        }

        void markCrashed(int process) {
            configuration = Configuration.withStatus(configuration, process, CRASHED);
        }

        /** Makes a step of a running process; answers as step() does. */
        int advance(int process) {
            long before = configuration;
            configuration = Configuration.afterStep(before, process, size, program);
            stepsMade = Counts.withOneMore(stepsMade, process);
            int status = Configuration.statusIn(configuration, process);
            if (status == NAMED) {
                return BECAME_NAMED;
            }
            int from = Configuration.splitterIn(before, process);
            int to = Configuration.splitterIn(configuration, process);
            if (status == RUNNING && to == from) {
                return STAYED;
            }
            boolean movesRight = Configuration.phaseIn(before, process) == 1;
            countExit(from, movesRight);
            if (status == OUT) {
                return BECAME_OUT;
            }
            entries = Counts.withOneMore(entries, to);
            return movesRight ? MOVED_RIGHT : MOVED_DOWN;
        }

        /** Lets a process make steps while it is running; answers how many it made. */
        int advanceUpTo(int process, int most) {
            int made = 0;
            while (made < most && isRunning(process)) {
                advance(process);
                made++;
            }
            return made;
        }

        private void countExit(int splitter, boolean toTheRight) {
            if (toTheRight) {
                rightExits = Counts.withOneMore(rightExits, splitter);
            } else {
                downExits = Counts.withOneMore(downExits, splitter);
            }
        }
    }

    /** The text, and the items that were read from it. */
    private static final class Schedule {
        static final int NO_ERROR = -1;

        private static final int MOST_CHARACTERS = 80;
        /** An item takes at least two characters. */
        private static final int MOST_ITEMS = MOST_CHARACTERS / 2;
        private static final int GREATEST_COUNT = 30;

        private static final int NO_NUMBER = -1;
        private static final int NO_CHARACTER = -1;

        private static final int EXPECTS_PROCESS = 0;
        private static final int EXPECTS_STAR_OR_END = 1;
        private static final int EXPECTS_COUNT = 2;
        private static final int EXPECTS_END = 3;
        private static final int REFUSED = 4;

        private final char[] text = new char[MOST_CHARACTERS];
        private int length;
        private final int[] itemProcesses = new int[MOST_ITEMS];
        private final int[] itemCounts = new int[MOST_ITEMS];
        private int items;

        boolean isFull() {
            return length >= text.length;
        }

        int add(char character) {
            if (!isFull()) {
                text[length] = character;
                length++;
            }
            return length;
        }

        int clear() {
            int previous = length;
            length = 0;
            return previous;
        }

        /** Reads the items; answers the error position, or NO_ERROR. */
        int read(int processes) {
            items = 0;
            int expected = EXPECTS_PROCESS;
            for (int offset = 0; offset < length; offset++) {
                if (beginsToken(offset)) {
                    expected = afterToken(expected, offset, processes);
                    if (expected == REFUSED) {
                        return offset;
                    }
                }
            }
            return expected == EXPECTS_PROCESS && items > 0 ? NO_ERROR : length;
        }

        int executeOn(State state) {
            int made = 0;
            for (int i = 0; i < items && i < itemProcesses.length && i < itemCounts.length; i++) {
                made += state.advanceUpTo(itemProcesses[i], itemCounts[i]);
            }
            return made;
        }

        /** Answers what is expected behind the token, or REFUSED if the token is not allowed. */
        private int afterToken(int expected, int offset, int processes) {
            int number = numberAt(offset);
            int sign = characterAt(offset);
            switch (expected) {
                case EXPECTS_PROCESS:
                    return number >= 0 && number < processes && addItem(number)
                            ? EXPECTS_STAR_OR_END : REFUSED;
                case EXPECTS_STAR_OR_END:
                    if (sign == '*') {
                        return EXPECTS_COUNT;
                    }
                    return sign == ';' ? EXPECTS_PROCESS : REFUSED;
                case EXPECTS_COUNT:
                    return number >= 1 && number <= GREATEST_COUNT && setCount(number)
                            ? EXPECTS_END : REFUSED;
                default:
                    return sign == ';' ? EXPECTS_PROCESS : REFUSED;
            }
        }

        /** Answers whether there was room, which a text of 80 characters always leaves. */
        private boolean addItem(int process) {
            if (items >= itemProcesses.length || items >= itemCounts.length) {
                return false;
            }
            itemProcesses[items] = process;
            itemCounts[items] = 1;
            items++;
            return true;
        }

        /** Sets the count of the latest item; answers whether there is one. */
        private boolean setCount(int count) {
            if (items < 1 || items > itemCounts.length) {
                return false;
            }
            itemCounts[items - 1] = count;
            return true;
        }

        private boolean beginsToken(int offset) {
            boolean continuesNumber = digitAt(offset) >= 0 && digitAt(offset - 1) >= 0;
            return characterAt(offset) != ' ' && !continuesNumber;
        }

        /** The number whose first digit is at the offset, or NO_NUMBER. */
        private int numberAt(int offset) {
            int first = digitAt(offset);
            int second = digitAt(offset + 1);
            if (first < 0) {
                return NO_NUMBER;
            }
            if (second < 0) {
                return first;
            }
            if (first == 0 || digitAt(offset + 2) >= 0) {
                return NO_NUMBER;
            }
            return first * 10 + second;
        }

        private int digitAt(int offset) {
            int character = characterAt(offset);
            return character >= '0' && character <= '9' ? character - '0' : NO_NUMBER;
        }

        private int characterAt(int offset) {
            return offset >= 0 && offset < length && offset < text.length
                    ? text[offset] : NO_CHARACTER;
        }
    }

    /**
     * All configurations that are reachable from one state, breadth first and
     * each by process numbers upwards: so they are found in the order of their
     * depth, and at one depth in lexicographic order of the smallest sequences
     * of steps that lead to them.
     */
    private static final class Exploration {
        private static final int MOST_FOUND = 4000;
        /** A power of two, so that a mask keeps each index in the table. */
        private static final int TABLE_SIZE = 8192;
        private static final int HASH_SHIFT = 51;
        private static final long HASH_FACTOR = 0x9E3779B97F4A7C15L;
        /** An outcome takes four bits for each process. */
        private static final int OUTCOME_WORDS = 64;

        private final long[] found = new long[MOST_FOUND];
        /** The configuration before, and the process that made the step from it; index 0 has none. */
        private final int[] parents = new int[MOST_FOUND];
        private final int[] movers = new int[MOST_FOUND];
        /** Index plus 1 of what was found, or 0, by hash with linear probing. */
        private final int[] table = new int[TABLE_SIZE];
        private final long[] outcomes = new long[OUTCOME_WORDS];
        private int count;
        private int processes;

        /** Answers whether there was room for all of them. */
        boolean findAllFrom(State state) {
            Arrays.fill(table, 0);
            count = 0;
            processes = state.processes;
            boolean fits = find(state.configuration, 0, NONE);
            for (int index = 0; fits && index < count && index < MOST_FOUND; index++) {
                fits = findNext(index, state);
            }
            return fits;
        }

        private boolean findNext(int index, State state) {
            long configuration = foundAt(index);
            for (int process = 0; process < processes; process++) {
                if (Configuration.statusIn(configuration, process) == RUNNING) {
                    long next = Configuration.afterStep(configuration, process, state.size, state.program);
                    if (!find(next, index, process)) {
                        return false;
                    }
                }
            }
            return true;
        }

        /** Keeps a configuration unless it is known; answers false if there is no room for it. */
        private boolean find(long configuration, int parent, int mover) {
            int home = (int) ((configuration * HASH_FACTOR) >>> HASH_SHIFT);
            for (int probe = 0; probe < TABLE_SIZE; probe++) {
                int place = (home + probe) & (TABLE_SIZE - 1);
                int index = table[place] - 1;
                if (index < 0) {
                    table[place] = count + 1;
                    return keep(configuration, parent, mover);
                }
                if (foundAt(index) == configuration) {
                    return true;
                }
            }
            return false;
        }

        private boolean keep(long configuration, int parent, int mover) {
            if (count < 0 || count >= MOST_FOUND) {
                return false;
            }
            found[count] = configuration;
            parents[count] = parent;
            movers[count] = mover;
            count++;
            return true;
        }

        private long foundAt(int index) {
            return index >= 0 && index < found.length ? found[index] : 0;
        }

        int countFinals() {
            int finals = 0;
            for (int index = 0; index < count; index++) {
                if (isFinal(foundAt(index))) {
                    finals++;
                }
            }
            return finals;
        }

        int countFinalsNamed(int process, int name) {
            int finals = 0;
            for (int index = 0; index < count; index++) {
                long configuration = foundAt(index);
                if (isFinal(configuration) && Configuration.nameIn(configuration, process) == name) {
                    finals++;
                }
            }
            return finals;
        }

        int countViolations() {
            int violations = 0;
            for (int index = 0; index < count; index++) {
                if (isViolation(foundAt(index))) {
                    violations++;
                }
            }
            return violations;
        }

        int countOutcomes() {
            Arrays.fill(outcomes, 0L);
            for (int index = 0; index < count; index++) {
                if (isFinal(foundAt(index))) {
                    markOutcome(outcomeOf(foundAt(index)));
                }
            }
            int different = 0;
            for (int word = 0; word < outcomes.length; word++) {
                different += Long.bitCount(outcomes[word]);
            }
            return different;
        }

        int highestName() {
            int highest = NONE;
            for (int index = 0; index < count; index++) {
                for (int process = 0; process < processes; process++) {
                    highest = Math.max(highest, Configuration.nameIn(foundAt(index), process));
                }
            }
            return highest;
        }

        int depthOf(int index) {
            int at = index;
            int depth = 0;
            while (at > 0 && depth < MOST_FOUND) {
                at = parentOf(at);
                depth++;
            }
            return depth;
        }

        /** The process that makes a step of the way to the first violation, or NONE. */
        int moverTowardsViolation(int step) {
            int at = firstViolation();
            int stepsBehind = depthOf(at) - 1 - step;
            if (stepsBehind < 0) {
                return NONE;
            }
            for (int i = 0; i < stepsBehind; i++) {
                at = parentOf(at);
            }
            return at >= 0 && at < movers.length ? movers[at] : NONE;
        }

        /** Its index, or NONE. */
        private int firstViolation() {
            for (int index = 0; index < count; index++) {
                if (isViolation(foundAt(index))) {
                    return index;
                }
            }
            return NONE;
        }

        private int parentOf(int index) {
            return index >= 0 && index < parents.length ? parents[index] : 0;
        }

        private boolean isFinal(long configuration) {
            for (int process = 0; process < processes; process++) {
                if (Configuration.statusIn(configuration, process) == RUNNING) {
                    return false;
                }
            }
            return true;
        }

        private boolean isViolation(long configuration) {
            for (int process = 1; process < processes; process++) {
                int name = Configuration.nameIn(configuration, process);
                for (int other = 0; other < process; other++) {
                    if (name != NONE && name == Configuration.nameIn(configuration, other)) {
                        return true;
                    }
                }
            }
            return false;
        }

        /** A number that is different for different outcomes: out and crashed count as the same. */
        private int outcomeOf(long configuration) {
            int outcome = 0;
            for (int process = 0; process < processes; process++) {
                int name = Configuration.nameIn(configuration, process);
                outcome = outcome * 16 + (name == NONE ? 0 : name + 1);
            }
            return outcome;
        }

        private void markOutcome(int outcome) {
            int word = outcome >> 6;
            if (word >= 0 && word < outcomes.length) {
                outcomes[word] |= 1L << (outcome & 63);
            }
        }
    }
}
