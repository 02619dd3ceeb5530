/**
 * A flash drive with three queues of commands, a volatile cache of writes, and writes that are
 * whole or absent after a power loss.
 *
 * <p>All rows are made by the constructors and used again, so that no call makes an object.
 */
public final class QueueDrive {
    public static final int DONE = 0;
    public static final int REFUSED = -1;
    public static final int FULL = -2;
    public static final int BUSY = -3;
    public static final long NONE = -1000000000000L;

    private static final int ADDRESSES = 24;
    private static final int QUEUES = 3;
    private static final int MOST_COMMANDS = 4;
    private static final int MOST_UNITS = 6;
    private static final int MOST_WORDS = 4;
    private static final int MOST_PAGES = 30;

    // No command can need more: each unit of a full cache, and one of its own.
    private static final int ENOUGH_PAGES = (MOST_UNITS + 1) * MOST_WORDS;

    private static final int READ = 0;
    private static final int WRITE = 1;
    private static final int FORCE = 2;
    private static final int FLUSH = 3;
    private static final int DROP = 4;
    private static final int MATCH = 5;

    private final long[] flashWords;
    private final Cache cache;
    private final CommandQueue[] queues;
    private int latestNumber;
    private int takenNumber;
    private long takenResult;
    private int unitsStored;
    private int pagesWritten;
    // How many pages the command in hand may still write before the power goes.
    private int pagesLeft;

    public QueueDrive(int limit) {
        flashWords = new long[ADDRESSES];
        for (int address = 0; address < ADDRESSES; address++) {
            flashWords[address] = NONE;
        }
        cache = new Cache(Math.max(1, Math.min(MOST_UNITS, limit)));
        queues = new CommandQueue[QUEUES];
        for (int i = 0; i < QUEUES; i++) {
            queues[i] = new CommandQueue();
        }
        takenResult = NONE;
    }

    public int submit(int queue, int kind, int a, int n, int v) {
        if (!isQueue(queue) || kind < READ || kind > MATCH) {
            return REFUSED;
        }
        if (kind != FLUSH && !areAddresses(a, n)) {
            return REFUSED;
        }
        CommandQueue target = queues[queue];
        if (target.pendingCount >= MOST_COMMANDS) {
            return FULL;
        }
        latestNumber++;
        Command command = target.addPending(latestNumber, kind);
        command.unit.set(a, n, v, kind == DROP);
        return latestNumber;
    }

    public int step(int queue, int pick) {
        int refusal = refusalOfStep(queue, pick);
        if (refusal != DONE) {
            return refusal;
        }
        CommandQueue source = queues[queue];
        Command command = source.pending[pick];
        long answer = carryOut(command, ENOUGH_PAGES);
        source.removePending(pick);
        source.addCompletion(command.number, answer);
        return command.number;
    }

    public int take(int queue) {
        if (!isQueue(queue) || queues[queue].completionCount == 0) {
            return REFUSED;
        }
        CommandQueue source = queues[queue];
        takenNumber = source.completedNumbers[0];
        takenResult = source.completedResults[0];
        source.removeOldestCompletion();
        return takenNumber;
    }

    public long result() {
        return takenResult;
    }

    public int reset() {
        return clearQueues();
    }

    public int power() {
        return losePower();
    }

    public int powerDuring(int queue, int pick, int pages) {
        if (pages < 0 || pages > MOST_PAGES) {
            return REFUSED;
        }
        int refusal = refusalOfStep(queue, pick);
        if (refusal != DONE) {
            return refusal;
        }
        carryOut(queues[queue].pending[pick], pages);
        losePower();
        return pages - pagesLeft;
    }

    public long word(int a) {
        return isAddress(a) ? heldWord(a) : NONE;
    }

    public long flash(int a) {
        return isAddress(a) ? flashWords[a] : NONE;
    }

    public int queue(int queue, int what) {
        if (!isQueue(queue)) {
            return REFUSED;
        }
        CommandQueue asked = queues[queue];
        switch (what) {
            case 0:
                return asked.pendingCount;
            case 1:
                return asked.completionCount;
            case 2:
            case 3:
            case 4:
            case 5:
                return asked.hasPending(what - 2) ? asked.pending[what - 2].number : REFUSED;
            default:
                return REFUSED;
        }
    }

    public int unit(int unit, int what) {
        if (unit < 0 || unit >= cache.size) {
            return REFUSED;
        }
        Unit asked = cache.units[unit];
        switch (what) {
            case 0:
                return asked.first;
            case 1:
                return asked.length;
            case 2:
                return asked.takesAway ? 1 : 0;
            default:
                return REFUSED;
        }
    }

    public int count(int what) {
        switch (what) {
            case 0:
                return cache.size;
            case 1:
                return latestNumber;
            case 2:
                return unitsStored;
            case 3:
                return pagesWritten;
            case 4:
                return takenNumber;
            default:
                return REFUSED;
        }
    }

    private static boolean isQueue(int queue) {
        return queue >= 0 && queue < QUEUES;
    }

    private static boolean isAddress(int address) {
        return address >= 0 && address < ADDRESSES;
    }

    private static boolean areAddresses(int first, int length) {
        if (length < 1 || length > MOST_WORDS) {
            return false;
        }
        // first + length could wrap.
        return first >= 0 && first <= ADDRESSES - length;
    }

    private int refusalOfStep(int queue, int pick) {
        if (!isQueue(queue) || !queues[queue].hasPending(pick)) {
            return REFUSED;
        }
        return queues[queue].completionCount >= MOST_COMMANDS ? BUSY : DONE;
    }

    private long carryOut(Command command, int pages) {
        pagesLeft = pages;
        switch (command.kind) {
            case READ:
                return sumOfHeld(command.unit);
            case WRITE:
            case DROP:
                cacheUnit(command.unit);
                return 0;
            case FORCE:
                force(command.unit);
                return 0;
            case FLUSH:
                return flush();
            case MATCH:
                return mismatches(command.unit);
            default:
                return NONE;
        }
    }

    private long sumOfHeld(Unit unit) {
        long sum = 0;
        for (int k = 0; k < unit.length; k++) {
            long held = heldWord(unit.first + k);
            if (held != NONE) {
                sum += held;
            }
        }
        return sum;
    }

    private int mismatches(Unit unit) {
        int found = 0;
        for (int k = 0; k < unit.length; k++) {
            if (heldWord(unit.first + k) != unit.wordAt(unit.first + k)) {
                found++;
            }
        }
        return found;
    }

    private void cacheUnit(Unit unit) {
        if (cache.isFull() && !storeOldest()) {
            return;
        }
        cache.add(unit);
    }

    private void force(Unit unit) {
        if (emptyCache()) {
            store(unit);
        }
    }

    private int flush() {
        int units = cache.size;
        emptyCache();
        return units;
    }

    /** Answers whether the power lasted. */
    private boolean emptyCache() {
        int units = cache.size;
        for (int i = 0; i < units; i++) {
            if (!storeOldest()) {
                return false;
            }
        }
        return true;
    }

    /** Answers whether the power lasted. */
    private boolean storeOldest() {
        if (cache.size == 0) {
            return true;
        }
        if (!store(cache.units[0])) {
            return false;
        }
        cache.removeOldest();
        return true;
    }

    /** Answers whether the power lasted; if not, the flash is as it was. */
    private boolean store(Unit unit) {
        for (int page = 0; page < unit.length; page++) {
            if (pagesLeft == 0) {
                return false;
            }
            pagesLeft--;
            pagesWritten++;
        }
        for (int k = 0; k < unit.length; k++) {
            flashWords[unit.first + k] = unit.wordAt(unit.first + k);
        }
        unitsStored++;
        return true;
    }

    private long heldWord(int address) {
        // The newest unit that covers an address hides the older ones and the flash.
        for (int i = cache.size - 1; i >= 0; i--) {
            if (cache.units[i].covers(address)) {
                return cache.units[i].wordAt(address);
            }
        }
        return flashWords[address];
    }

    private int losePower() {
        int lost = cache.size;
        cache.size = 0;
        clearQueues();
        return lost;
    }

    private int clearQueues() {
        int dropped = 0;
        for (int i = 0; i < QUEUES; i++) {
            dropped += queues[i].pendingCount;
            queues[i].pendingCount = 0;
            queues[i].completionCount = 0;
        }
        return dropped;
    }

    /** Words for a run of addresses, or the taking away of the words there. */
    private static final class Unit {
        int first;
        int length;
        int value;
        boolean takesAway;

        void set(int newFirst, int newLength, int newValue, boolean newTakesAway) {
            first = newFirst;
            length = newLength;
            value = newValue;
            takesAway = newTakesAway;
        }

        boolean covers(int address) {
            return address >= first && address < first + length;
        }

        long wordAt(int address) {
            if (takesAway) {
                return NONE;
            }
            // Summed as an int first, since words wrap.
            int word = value + (address - first);
            return word;
        }
    }

    /** A command; for READ and MATCH the unit only says the addresses and the words to match. */
    private static final class Command {
        final Unit unit = new Unit();
        int number;
        int kind;
    }

    /** The units that wait for the flash, from the oldest to the newest. */
    private static final class Cache {
        final Unit[] units;
        int size;

        Cache(int limit) {
            units = new Unit[limit];
            for (int i = 0; i < limit; i++) {
                units[i] = new Unit();
            }
        }

        boolean isFull() {
            return size >= units.length;
        }

        void add(Unit unit) {
            if (isFull()) {
                return;
            }
            // Copied, since the row of its command will be used again.
            units[size].set(unit.first, unit.length, unit.value, unit.takesAway);
            size++;
        }

        void removeOldest() {
            if (size == 0) {
                return;
            }
            Unit oldest = units[0];
            size--;
            for (int i = 0; i < size; i++) {
                units[i] = units[i + 1];
            }
            units[size] = oldest;
        }
    }

    /** Pending commands in the order submitted, and completions in the order made. */
    private static final class CommandQueue {
        final Command[] pending;
        final int[] completedNumbers;
        final long[] completedResults;
        int pendingCount;
        int completionCount;

        CommandQueue() {
            pending = new Command[MOST_COMMANDS];
            for (int i = 0; i < MOST_COMMANDS; i++) {
                pending[i] = new Command();
            }
            completedNumbers = new int[MOST_COMMANDS];
            completedResults = new long[MOST_COMMANDS];
        }

        boolean hasPending(int pick) {
            return pick >= 0 && pick < pendingCount;
        }

        /** The caller has seen that there is room. */
        Command addPending(int number, int kind) {
            Command command = pending[pendingCount];
            command.number = number;
            command.kind = kind;
            pendingCount++;
            return command;
        }

        /** The row goes behind the pending ones, and says what it said till it is used again. */
        void removePending(int pick) {
            if (!hasPending(pick)) {
                return;
            }
            Command removed = pending[pick];
            pendingCount--;
            for (int i = pick; i < pendingCount; i++) {
                pending[i] = pending[i + 1];
            }
            pending[pendingCount] = removed;
        }

        void addCompletion(int number, long answer) {
            if (completionCount >= MOST_COMMANDS) {
                return;
            }
            completedNumbers[completionCount] = number;
            completedResults[completionCount] = answer;
            completionCount++;
        }

        void removeOldestCompletion() {
            if (completionCount == 0) {
                return;
            }
            completionCount--;
            for (int i = 0; i < completionCount; i++) {
                completedNumbers[i] = completedNumbers[i + 1];
                completedResults[i] = completedResults[i + 1];
            }
        }
    }
}
