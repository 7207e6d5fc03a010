import java.util.NoSuchElementException;

/**
 * A notebook that computes: cells read variables and write one, data change, a cell knows whether it is stale, kernels
 * are shared out by need, results are found again by their contents, schedules run again what has changed, failures
 * know their causes, and views hold what was published.
 */
public final class NotebookLab {
    private static final int VARIABLES = 12;
    private static final int OWNERS = 4;
    private static final int VALUES = 1000;
    private static final int CONSTANTS = 100;
    private static final int MAX_CELLS = 11;
    private static final int MAX_NEED = 5;
    private static final int MAX_TIME = 9;
    private static final int MAX_KERNELS = 3;
    private static final int MAX_ROOM = 20;
    private static final int MAX_PERIOD = 50;
    private static final int MAX_TICKS = 50;
    private static final int LAST_TICK = 5000;
    private static final int MAX_VIEWS = 20;

    /** Stands for no value, no owner, no writer, no second variable, no kernel; all of these count from 0. */
    private static final int NONE = -1;

    // How a cell ended at last; to have waited is no ending.
    private static final int NEVER_ENDED = 0;
    private static final int SUCCEEDED = 1;
    private static final int FAILED = 2;

    /** A cell: what it was told to be, how it ended at last, and what it saw then. */
    private static final class Cell {
        char kind;
        int first;
        int second;
        int constant;
        int writes;
        int need;
        int time;
        int period;
        /** Bit v stands for the variable v, on which this cell depends. */
        int lineage;
        int ending = NEVER_ENDED;
        int seenFirst;
        int seenSecond;
        int seenConstant;
        int timesRun;
        int timesFound;
        final Failure lastFailure = new Failure();
        final Memory memory = new Memory();
    }

    /**
     * A failure. Causes never change once they are there, so what is asked of them (the root, their number) is copied
     * when the failure comes about, and no chain need be kept.
     */
    private static final class Failure {
        char kind;
        int rootCell;
        char rootKind;
        int causeCount;

        void setWithoutCause(int cell, char why) {
            kind = why;
            rootCell = cell;
            rootKind = why;
            causeCount = 0;
        }

        void setCausedBy(Failure cause, char why) {
            kind = why;
            rootCell = cause.rootCell;
            rootKind = cause.rootKind;
            causeCount = cause.causeCount + 1;
        }
    }

    /** The results that were computed last by runs of one cell, with what was read and the constant. */
    private static final class Memory {
        static final int SIZE = 4;
        final int[] firsts = new int[SIZE];
        final int[] seconds = new int[SIZE];
        final int[] constants = new int[SIZE];
        final int[] results = new int[SIZE];
        int kept;
        /** Where the next result goes: behind the newest one, which is the place of the oldest if all are taken. */
        int next;

        int find(int first, int second, int constant) {
            for (int i = 0; i < kept; i++) {
                if (firsts[i] == first && seconds[i] == second && constants[i] == constant) {
                    return results[i];
                }
            }
            return NONE;
        }

        void keep(int first, int second, int constant, int result) {
            firsts[next] = first;
            seconds[next] = second;
            constants[next] = constant;
            results[next] = result;
            next = next + 1 < SIZE ? next + 1 : 0;
            if (kept < SIZE) {
                kept++;
            }
        }
    }

    /** A kernel. A need ends at most MAX_TIME ticks ahead, so a ring of one place more than that holds all endings. */
    private static final class Kernel {
        static final int RING = MAX_TIME + 1;
        int room;
        int taken;
        final int[] endings = new int[RING];

        int roomLeft() {
            return room - taken;
        }

        void take(int need, int lastsUntil) {
            taken += need;
            endings[Math.floorMod(lastsUntil, RING)] += need;
        }

        void giveBack(int tickNow) {
            int place = Math.floorMod(tickNow, RING);
            taken -= endings[place];
            endings[place] = 0;
        }
    }

    private final int[] values = new int[VARIABLES];
    private final int[] ownerOf = new int[VARIABLES];
    private final int[] writerOf = new int[VARIABLES];
    /** The values of all variables if all cells were run in order from the data; right only after computeAnew. */
    private final int[] anew = new int[VARIABLES];
    private final Cell[] cells = new Cell[MAX_CELLS];
    private final Kernel[] kernels = new Kernel[MAX_KERNELS];
    private final int[] viewCells = new int[MAX_VIEWS];
    private final int[] viewValues = new int[MAX_VIEWS];
    private int dataMade;
    private int cellsMade;
    private int kernelsMade;
    private int viewsMade;
    private int now;
    private long workGiven;

    public NotebookLab() {
        for (int variable = 0; variable < VARIABLES; variable++) {
            values[variable] = NONE;
            ownerOf[variable] = NONE;
            writerOf[variable] = NONE;
        }
        // All places are filled here, so that no reference in these rows is ever null.
        for (int number = 0; number < MAX_CELLS; number++) {
            cells[number] = new Cell();
        }
        for (int number = 0; number < MAX_KERNELS; number++) {
            kernels[number] = new Kernel();
        }
    }

    // Data and cells

    public int addData(int variable, int owner, int value) throws IllegalArgumentException, IllegalStateException {
        if (!isVariable(variable) || !isWithin(owner, 0, OWNERS - 1) || !isWithin(value, 0, VALUES - 1)) {
            throw new IllegalArgumentException("the variable, the owner or the value is out of range");
        }
        if (isDefined(variable)) {
            throw new IllegalStateException("the variable is data or is written by a cell");
        }
        ownerOf[variable] = owner;
        values[variable] = value;
        dataMade++;
        return dataMade;
    }

    public int setData(int variable, int value) throws IllegalArgumentException, NoSuchElementException {
        if (!isVariable(variable) || !isWithin(value, 0, VALUES - 1)) {
            throw new IllegalArgumentException("the variable or the value is out of range");
        }
        checkData(variable);
        int before = values[variable];
        values[variable] = value;
        return before;
    }

    public int loseData(int variable)
            throws IllegalArgumentException, NoSuchElementException, IllegalStateException {
        checkVariable(variable);
        checkData(variable);
        int before = values[variable];
        if (before == NONE) {
            throw new IllegalStateException("the variable has no value");
        }
        values[variable] = NONE;
        return before;
    }

    public int addCell(char kind, int first, int second, int constant, int writes, int need, int time)
            throws IllegalArgumentException, UnsupportedOperationException {
        if (!isKind(kind) || !isVariable(first) || !(second == NONE || isVariable(second))
                || !isWithin(constant, 0, CONSTANTS - 1) || !isVariable(writes)
                || !isWithin(need, 1, MAX_NEED) || !isWithin(time, 1, MAX_TIME)) {
            throw new IllegalArgumentException("one of them is out of range");
        }
        if (!isDefined(first) || (second != NONE && !isDefined(second)) || isDefined(writes)) {
            throw new UnsupportedOperationException("what it reads must be there, what it writes must not");
        }
        // Each cell writes a variable of its own and the first one reads data, so this never holds.
        if (cellsMade >= MAX_CELLS) {
            throw new UnsupportedOperationException("no variable is left to write");
        }
        int number = cellsMade;
        Cell cell = cells[number];
        cell.kind = kind;
        cell.first = first;
        cell.second = second;
        cell.constant = constant;
        cell.writes = writes;
        cell.need = need;
        cell.time = time;
        cell.lineage = lineageThrough(first) | (second == NONE ? 0 : lineageThrough(second));
        writerOf[writes] = number;
        cellsMade++;
        return number;
    }

    public int setConstant(int cell, int constant) throws IndexOutOfBoundsException, IllegalArgumentException {
        Cell changed = cellAt(cell);
        if (!isWithin(constant, 0, CONSTANTS - 1)) {
            throw new IllegalArgumentException("the constant is out of range");
        }
        int before = changed.constant;
        changed.constant = constant;
        return before;
    }

    public int cellCount() {
        return cellsMade;
    }

    public int value(int variable) throws IllegalArgumentException, NoSuchElementException {
        checkVariable(variable);
        if (values[variable] == NONE) {
            throw new NoSuchElementException("the variable has no value");
        }
        return values[variable];
    }

    public int writer(int variable) throws IllegalArgumentException, NoSuchElementException {
        checkVariable(variable);
        if (writerOf[variable] == NONE) {
            throw new NoSuchElementException("no cell writes the variable");
        }
        return writerOf[variable];
    }

    // Runs and states

    public char run(int cell) throws IndexOutOfBoundsException {
        return execute(cell, cellAt(cell));
    }

    public int runAll() {
        int freshCells = 0;
        for (int number = 0; number < cellsMade; number++) {
            Cell cell = cells[number];
            if (!isUpToDate(cell, freshCells)) {
                execute(number, cell);
            }
            // A run changes only what later cells read, so what was found fresh before stays so.
            if (isUpToDate(cell, freshCells)) {
                freshCells |= bit(number);
            }
        }
        return Integer.bitCount(freshCells);
    }

    public char state(int cell) throws IndexOutOfBoundsException {
        Cell asked = cellAt(cell);
        if (asked.ending == NEVER_ENDED) {
            return 'n';
        }
        if (asked.ending == FAILED) {
            return 'x';
        }
        return isFresh(cell) ? 'f' : 's';
    }

    public int resultAnew(int cell) throws IndexOutOfBoundsException, UnsupportedOperationException {
        Cell asked = cellAt(cell);
        computeAnew();
        int result = anew[asked.writes];
        if (result == NONE) {
            throw new UnsupportedOperationException("the cell would fail");
        }
        return result;
    }

    public int fresh() {
        return Integer.bitCount(freshCells());
    }

    public int runs(int cell) throws IndexOutOfBoundsException {
        return cellAt(cell).timesRun;
    }

    public int found(int cell) throws IndexOutOfBoundsException {
        return cellAt(cell).timesFound;
    }

    // Failures

    public char failure(int cell) throws IndexOutOfBoundsException, IllegalStateException {
        return failureOf(cell).kind;
    }

    public int root(int cell) throws IndexOutOfBoundsException, IllegalStateException {
        return failureOf(cell).rootCell;
    }

    public char rootFailure(int cell) throws IndexOutOfBoundsException, IllegalStateException {
        return failureOf(cell).rootKind;
    }

    public int causes(int cell) throws IndexOutOfBoundsException, IllegalStateException {
        return failureOf(cell).causeCount;
    }

    // Lineage

    public boolean depends(int cell, int variable) throws IndexOutOfBoundsException, IllegalArgumentException {
        Cell asked = cellAt(cell);
        checkVariable(variable);
        return hasBit(asked.lineage, variable);
    }

    public int owners(int cell) throws IndexOutOfBoundsException {
        Cell asked = cellAt(cell);
        int sum = 0;
        for (int variable = 0; variable < VARIABLES; variable++) {
            if (hasBit(asked.lineage, variable) && isData(variable)) {
                sum |= bit(ownerOf[variable]);
            }
        }
        return sum;
    }

    public int dependents(int variable) throws IllegalArgumentException {
        checkVariable(variable);
        int count = 0;
        for (int number = 0; number < cellsMade; number++) {
            if (hasBit(cells[number].lineage, variable)) {
                count++;
            }
        }
        return count;
    }

    // Kernels, schedules, ticks

    public int addKernel(int room) throws IllegalArgumentException, IllegalStateException {
        if (!isWithin(room, 1, MAX_ROOM)) {
            throw new IllegalArgumentException("the room is out of range");
        }
        if (kernelsMade >= MAX_KERNELS) {
            throw new IllegalStateException("there are 3 kernels");
        }
        int number = kernelsMade;
        kernels[number].room = room;
        kernelsMade++;
        return number;
    }

    public int free(int kernel) throws IndexOutOfBoundsException {
        if (!isWithin(kernel, 0, kernelsMade - 1)) {
            throw new IndexOutOfBoundsException("there is no such kernel");
        }
        return kernels[kernel].roomLeft();
    }

    public int schedule(int cell, int period) throws IndexOutOfBoundsException, IllegalArgumentException {
        Cell scheduled = cellAt(cell);
        if (!isWithin(period, 0, MAX_PERIOD)) {
            throw new IllegalArgumentException("the period is out of range");
        }
        int before = scheduled.period;
        scheduled.period = period;
        return before;
    }

    public int pass(int ticks) throws IllegalArgumentException, IllegalStateException {
        if (!isWithin(ticks, 1, MAX_TICKS)) {
            throw new IllegalArgumentException("the number of ticks is out of range");
        }
        if (now + ticks > LAST_TICK) {
            throw new IllegalStateException("the tick would be greater than 5000");
        }
        int succeeded = 0;
        for (int passed = 0; passed < ticks; passed++) {
            now++;
            for (int number = 0; number < kernelsMade; number++) {
                kernels[number].giveBack(now);
            }
            succeeded += runWhatIsDue();
        }
        return succeeded;
    }

    public int tick() {
        return now;
    }

    public long work() {
        return workGiven;
    }

    public float load() throws ArithmeticException {
        int taken = 0;
        int rooms = 0;
        for (int number = 0; number < kernelsMade; number++) {
            taken += kernels[number].taken;
            rooms += kernels[number].room;
        }
        if (rooms == 0) {
            throw new ArithmeticException("there are no kernels");
        }
        return (float) taken / (float) rooms;
    }

    public double meanValue() throws ArithmeticException {
        int sum = 0;
        int count = 0;
        for (int variable = 0; variable < VARIABLES; variable++) {
            if (values[variable] != NONE) {
                sum += values[variable];
                count++;
            }
        }
        if (count == 0) {
            throw new ArithmeticException("no variable has a value");
        }
        return (double) sum / (double) count;
    }

    // Views

    public int publish(int cell) throws IndexOutOfBoundsException, IllegalStateException {
        Cell published = cellAt(cell);
        if (!isFresh(cell) || viewsMade >= MAX_VIEWS) {
            throw new IllegalStateException("the cell is not fresh, or there are 20 views");
        }
        int number = viewsMade;
        viewCells[number] = cell;
        viewValues[number] = values[published.writes];
        viewsMade++;
        return number;
    }

    public int held(int view) throws NoSuchElementException {
        checkView(view);
        return viewValues[view];
    }

    public boolean isCurrent(int view) throws NoSuchElementException {
        checkView(view);
        int cell = viewCells[view];
        return isFresh(cell) && values[cells[cell].writes] == viewValues[view];
    }

    public boolean isSound() {
        return freshCellsAreRight() && kernelsAreRight() && failuresAreRight();
    }

    // What the calls ask first

    private static boolean isWithin(int number, int least, int greatest) {
        return number >= least && number <= greatest;
    }

    private static boolean isVariable(int variable) {
        return isWithin(variable, 0, VARIABLES - 1);
    }

    private static boolean isKind(char kind) {
        return kind == '+' || kind == '*' || kind == '-' || kind == '/';
    }

    private boolean isData(int variable) {
        return ownerOf[variable] != NONE;
    }

    private boolean isDefined(int variable) {
        return isData(variable) || writerOf[variable] != NONE;
    }

    private static void checkVariable(int variable) {
        if (!isVariable(variable)) {
            throw new IllegalArgumentException("there is no such variable");
        }
    }

    private void checkData(int variable) {
        if (!isData(variable)) {
            throw new NoSuchElementException("the variable is not data");
        }
    }

    private void checkView(int view) {
        if (!isWithin(view, 0, viewsMade - 1)) {
            throw new NoSuchElementException("there is no such view");
        }
    }

    private Cell cellAt(int number) {
        if (!isWithin(number, 0, cellsMade - 1)) {
            throw new IndexOutOfBoundsException("there is no such cell");
        }
        return cells[number];
    }

    private Failure failureOf(int number) {
        Cell cell = cellAt(number);
        if (cell.ending != FAILED) {
            throw new IllegalStateException("the cell has not failed");
        }
        return cell.lastFailure;
    }

    // Sets of cells and of variables, as bits

    private static int bit(int number) {
        return 1 << number;
    }

    private static boolean hasBit(int set, int number) {
        return (set & bit(number)) != 0;
    }

    private int lineageThrough(int variable) {
        int writer = writerOf[variable];
        return bit(variable) | (writer == NONE ? 0 : cells[writer].lineage);
    }

    // Freshness: a cell reads only what earlier cells write, so one walk by rising numbers settles all

    private int freshCells() {
        int freshCells = 0;
        for (int number = 0; number < cellsMade; number++) {
            if (isUpToDate(cells[number], freshCells)) {
                freshCells |= bit(number);
            }
        }
        return freshCells;
    }

    private boolean isFresh(int number) {
        return hasBit(freshCells(), number);
    }

    /** Whether a cell is fresh, if the earlier cells in the set are the ones that are. */
    private boolean isUpToDate(Cell cell, int freshBefore) {
        return cell.ending == SUCCEEDED
            && cell.constant == cell.seenConstant
            && isAsThen(cell.first, cell.seenFirst, freshBefore)
            && (cell.second == NONE || isAsThen(cell.second, cell.seenSecond, freshBefore));
    }

    private boolean isAsThen(int variable, int seen, int freshBefore) {
        int writer = writerOf[variable];
        return values[variable] == seen && (writer == NONE || hasBit(freshBefore, writer));
    }

    // Running

    private char execute(int number, Cell cell) {
        int missing = firstMissing(cell, values);
        if (missing != NONE) {
            failForMissing(number, cell, missing);
            return 'm';
        }
        int first = values[cell.first];
        int second = valueIfAny(cell.second, values);
        int result = resultOf(cell, first, second);
        if (result == NONE) {
            cell.lastFailure.setWithoutCause(number, 'z');
            endWith(cell, FAILED, NONE);
            return 'z';
        }
        int kept = cell.memory.find(first, second, cell.constant);
        if (kept != NONE) {
            cell.timesFound++;
            succeedWith(cell, first, second, kept);
            return 'h';
        }
        int kernel = kernelFor(cell.need);
        if (kernel == NONE) {
            return 'w';
        }
        kernels[kernel].take(cell.need, now + cell.time);
        workGiven += (long) cell.need * cell.time;
        cell.timesRun++;
        cell.memory.keep(first, second, cell.constant, result);
        succeedWith(cell, first, second, result);
        return 'r';
    }

    private void succeedWith(Cell cell, int first, int second, int result) {
        cell.seenFirst = first;
        cell.seenSecond = second;
        cell.seenConstant = cell.constant;
        endWith(cell, SUCCEEDED, result);
    }

    private void endWith(Cell cell, int ending, int value) {
        cell.ending = ending;
        values[cell.writes] = value;
    }

    private void failForMissing(int number, Cell cell, int missing) {
        int writer = writerOf[missing];
        if (writer != NONE && cells[writer].ending == FAILED) {
            cell.lastFailure.setCausedBy(cells[writer].lastFailure, 'm');
        } else {
            cell.lastFailure.setWithoutCause(number, 'm');
        }
        endWith(cell, FAILED, NONE);
    }

    /** The first variable that a cell reads and that has no value among these. */
    private static int firstMissing(Cell cell, int[] among) {
        if (among[cell.first] == NONE) {
            return cell.first;
        }
        if (cell.second != NONE && among[cell.second] == NONE) {
            return cell.second;
        }
        return NONE;
    }

    private static int valueIfAny(int variable, int[] among) {
        return variable == NONE ? NONE : among[variable];
    }

    /** The result for what is read, or NONE if the cell would divide by 0. */
    private static int resultOf(Cell cell, int first, int second) {
        boolean hasSecond = cell.second != NONE;
        int other = hasSecond ? second : cell.constant;
        if (cell.kind == '+') {
            return (first + cell.constant + (hasSecond ? second : 0)) % VALUES;
        }
        if (cell.kind == '*') {
            // At most 999 * 999 * 99, which an int holds.
            return first * cell.constant * (hasSecond ? second : 1) % VALUES;
        }
        if (cell.kind == '-') {
            return Math.abs(first - other) % VALUES;
        }
        return other == 0 ? NONE : first / other % VALUES;
    }

    private int kernelFor(int need) {
        int best = NONE;
        for (int number = 0; number < kernelsMade; number++) {
            int left = kernels[number].roomLeft();
            if (left >= need && (best == NONE || left < kernels[best].roomLeft())) {
                best = number;
            }
        }
        return best;
    }

    private int runWhatIsDue() {
        int succeeded = 0;
        int freshCells = 0;
        for (int number = 0; number < cellsMade; number++) {
            Cell cell = cells[number];
            if (isDue(cell) && !isUpToDate(cell, freshCells)) {
                char told = execute(number, cell);
                if (told == 'r' || told == 'h') {
                    succeeded++;
                }
            }
            if (isUpToDate(cell, freshCells)) {
                freshCells |= bit(number);
            }
        }
        return succeeded;
    }

    private boolean isDue(Cell cell) {
        return cell.period != 0 && now % cell.period == 0;
    }

    private void computeAnew() {
        for (int variable = 0; variable < VARIABLES; variable++) {
            anew[variable] = isData(variable) ? values[variable] : NONE;
        }
        for (int number = 0; number < cellsMade; number++) {
            Cell cell = cells[number];
            if (firstMissing(cell, anew) == NONE) {
                anew[cell.writes] = resultOf(cell, anew[cell.first], valueIfAny(cell.second, anew));
            }
        }
    }

    // Soundness

    private boolean freshCellsAreRight() {
        computeAnew();
        int freshCells = freshCells();
        for (int number = 0; number < cellsMade; number++) {
            int written = cells[number].writes;
            if (hasBit(freshCells, number) && (values[written] == NONE || values[written] != anew[written])) {
                return false;
            }
        }
        return true;
    }

    private boolean kernelsAreRight() {
        for (int number = 0; number < kernelsMade; number++) {
            if (!isWithin(kernels[number].taken, 0, kernels[number].room)) {
                return false;
            }
        }
        return true;
    }

    /**
     * Each cause belongs to an earlier cell than what it causes. A failure with more causes than there are earlier
     * cells would meet one of these twice, and so be among its own causes.
     */
    private boolean failuresAreRight() {
        for (int number = 0; number < cellsMade; number++) {
            Cell cell = cells[number];
            if (cell.ending == FAILED && cell.lastFailure.causeCount > number - cell.lastFailure.rootCell) {
                return false;
            }
        }
        return true;
    }
}
